set_option maxHeartbeats 4000000 in
set_option maxRecDepth 100000 in
theorem k_X1_setThreshold (l : Launch) (D : va_G) (ax ar : Nat) (ad : Nat → Nat) (cO : ClassId) (sz : Nat) (σ : St) (t : Int32) (hfl : l.stackTraces = false) : vx_Met l yX1_setThreshold wsX1_setThreshold ({ frames := 7, cells := 1, slots := 6, locals := 120 } : Room) (va_Pc [.ref ax, .int t] (xPre D (cT cO) xE (cW ax ar ad cO) σ sz)) (va_Qi (fun (r : Int32) (u : St) => inR t 1 1000 = true ∧ r = gI σ 4 ∧ u = uI σ 4 t) (xB D (cT cO) (cW ax ar ad cO) (va_A (cW ax ar ad cO σ) sz)) (va_A (cW ax ar ad cO σ) sz)) (xXC D (cT cO) (cW ax ar ad cO) (va_A (cW ax ar ad cO σ) sz) σ (fun En => En = xIA ∧ inR t 1 1000 = false)) 1 6 (va_A (cW ax ar ad cO σ) sz) := by
  refine xxOpen (w := (cW ax ar ad cO)) (σ := σ) (cc := cX1_setThreshold) (maxL := 3) (ret := some .int) (QQ := fun A => va_Qi (fun (r : Int32) (u : St) => inR t 1 1000 = true ∧ r = gI σ 4 ∧ u = uI σ 4 t) (xB D (cT cO) (cW ax ar ad cO) A) A) (XX := fun A => xXC D (cT cO) (cW ax ar ad cO) A σ (fun En => En = xIA ∧ inR t 1 1000 = false)) (by decide) rfl (Nat.le_of_ble_eq_true rfl) ?_
  intro p e s m below meth c A hx hb hr hml hown hts hlocks htab hK hE hA hP hD hS ls hl
  have hl : lv_has ls 3 [(0, .ref ax), (1, .int t)] := hl
  have hown : s.vm.findClass RX1 = some m.cls := hown
  have hi1 : ∀ w ∈ wsX10, w ∈ wsX1_setThreshold := (fun _ h => List.mem_cons_of_mem _ (List.mem_append_left _ (List.mem_append_right _ h)))
  generalize hH : s.heap = H at hP
  have hS : va_S A s.heap H [] := by rw [← hH]; exact va_S.rf
  generalize hlo : ([] : List Loc) = locs at hS
  refine lv_iload_n hx hb dX1_setThreshold_0 rfl (lv_at hl 1 rfl) ?_
  refine lv_iconst (v := 1) hx hb dX1_setThreshold_1 (by decide) ?_
  refine lv_sipush (v := 1000) hx hb dX1_setThreshold_2 (by decide) ?_
  refine xx_callv (vx_runS (As := [.int t, .int 1, .int 1000]) (rest := []) ⟨hx, hb, hml, hown, hts⟩ (k_X1_requireWithin l D ax ar ad cO H.size σ t 1 1000 hfl) (va_cwS 3 hts gX1_setThreshold_X1_requireWithin rfl rfl rfl (by decide +kernel) ⟨Nat.le_of_ble_eq_true rfl, Nat.le_of_ble_eq_true rfl⟩) (xPreS xE_ok hE hK hA hP hD hS) rfl rfl hl.1 rfl (lv_room (Nat.le_of_ble_eq_true rfl)) dX1_setThreshold_5 ⟨Nat.le_of_ble_eq_true rfl, Nat.le_of_ble_eq_true rfl⟩) hD hS hA (fun En ce q9 H locs hxc hP hS hq9 hv9 hcl9 => ?_) (fun u H locs hp hP hD hS => ?_)
  · exact xx_out htab hlocks hK hq9 hv9 hcl9 hP hD hS (hxc) (Nat.le_of_ble_eq_true rfl) (Nat.le_of_ble_eq_true rfl)
  obtain ⟨v_1, hu9⟩ := hp
  rw [hu9] at hP hD
  · refine lv_aload_n hx hb dX1_setThreshold_8 rfl (lv_at hl 0 rfl) ?_
    refine c_get hx hb hts hi1 hown hK hP 4 (by decide) (List.mem_of_getElem? (i := 1) rfl) (v := .int (gI σ 4)) rfl dX1_setThreshold_9 (fun _ h => h) ?_
    refine lv_istore_n (lv' := [(2, .int (gI σ 4)), (0, .ref ax), (1, .int t)]) hx hb dX1_setThreshold_12 rfl hl (by decide) rfl (fun ls hl => ?_)
    refine lv_aload_n hx hb dX1_setThreshold_13 rfl (lv_at hl 1 rfl) ?_
    refine lv_iload_n hx hb dX1_setThreshold_14 rfl (lv_at hl 2 rfl) ?_
    refine c_put hx hb hts hi1 hown hK hP hD hS 4 (by decide) (List.mem_of_getElem? (i := 1) rfl) (v := .int t) (ty := .int) (uI σ 4 t) (cF_uI ar σ t).2.2.1 (fun _ => sF_uI _ _ _ _) (by decide) rfl (by decide +kernel) rfl rfl dX1_setThreshold_15 (fun _ h => h) (fun H locs hP hD hS => ?_)
    refine lv_iload_n hx hb dX1_setThreshold_18 rfl (lv_at hl 0 rfl) ?_
    refine vx_ret ?_
    refine W.widen (k := 1) (n := 6) (by decide) (by decide) ?_
    exact x_iret hx hb hr hlocks hK (uI σ 4 t) hP hD hS ⟨v_1, rfl, rfl⟩ dX1_setThreshold_19
set_option maxHeartbeats 4000000 in
set_option maxRecDepth 100000 in
theorem k_X1_setCapacity (l : Launch) (D : va_G) (ax ar : Nat) (ad : Nat → Nat) (cO : ClassId) (sz : Nat) (σ : St) (t : Int32) (hfl : l.stackTraces = false) : vx_Met l yX1_setCapacity wsX1_setCapacity ({ frames := 7, cells := 2, slots := 12, locals := 150 } : Room) (va_Pc [.ref ax, .int t] (xPre D (cT cO) xE (cW ax ar ad cO) σ sz)) (va_Qi (fun (r : Int32) (u : St) => inR t 1 10000 = true ∧ ¬ t < pinA σ ∧ r = (cSetCap σ t).1 ∧ u = (cSetCap σ t).2) (xB D (cT cO) (cW ax ar ad cO) (va_A (cW ax ar ad cO σ) sz)) (va_A (cW ax ar ad cO σ) sz)) (xXC D (cT cO) (cW ax ar ad cO) (va_A (cW ax ar ad cO σ) sz) σ (fun En => (En = xIA ∧ inR t 1 10000 = false) ∨ (En = xIS ∧ inR t 1 10000 = true ∧ t < pinA σ))) 2 12 (va_A (cW ax ar ad cO σ) sz) := by
  refine xxOpen (w := (cW ax ar ad cO)) (σ := σ) (cc := cX1_setCapacity) (maxL := 2) (ret := some .int) (QQ := fun A => va_Qi (fun (r : Int32) (u : St) => inR t 1 10000 = true ∧ ¬ t < pinA σ ∧ r = (cSetCap σ t).1 ∧ u = (cSetCap σ t).2) (xB D (cT cO) (cW ax ar ad cO) A) A) (XX := fun A => xXC D (cT cO) (cW ax ar ad cO) A σ (fun En => (En = xIA ∧ inR t 1 10000 = false) ∨ (En = xIS ∧ inR t 1 10000 = true ∧ t < pinA σ))) (by decide) rfl (Nat.le_of_ble_eq_true rfl) ?_
  intro p e s m below meth c A hx hb hr hml hown hts hlocks htab hK hE hA hP hD hS ls hl
  have hl : lv_has ls 2 [(0, .ref ax), (1, .int t)] := hl
  have hown : s.vm.findClass RX1 = some m.cls := hown
  have hi0 : ∀ w ∈ wsX00, w ∈ wsX1_setCapacity := (fun _ h => List.mem_cons_of_mem _ (List.mem_append_left _ (List.mem_append_left _ (List.mem_append_right _ h))))
  have hi1 : ∀ w ∈ wsX10, w ∈ wsX1_setCapacity := (fun _ h => List.mem_cons_of_mem _ (List.mem_append_left _ (List.mem_append_left _ (List.mem_append_left _ (List.mem_append_right _ h)))))
  generalize hH : s.heap = H at hP
  have hS : va_S A s.heap H [] := by rw [← hH]; exact va_S.rf
  generalize hlo : ([] : List Loc) = locs at hS
  refine lv_iload_n hx hb dX1_setCapacity_0 rfl (lv_at hl 1 rfl) ?_
  refine lv_iconst (v := 1) hx hb dX1_setCapacity_1 (by decide) ?_
  refine lv_sipush (v := 10000) hx hb dX1_setCapacity_2 (by decide) ?_
  refine xx_callv (vx_runS (As := [.int t, .int 1, .int 10000]) (rest := []) ⟨hx, hb, hml, hown, hts⟩ (k_X1_requireWithin l D ax ar ad cO H.size σ t 1 10000 hfl) (va_cwS 3 hts gX1_setCapacity_X1_requireWithin rfl rfl rfl (by decide +kernel) ⟨Nat.le_of_ble_eq_true rfl, Nat.le_of_ble_eq_true rfl⟩) (xPreS xE_ok hE hK hA hP hD hS) rfl rfl hl.1 rfl (lv_room (Nat.le_of_ble_eq_true rfl)) dX1_setCapacity_5 ⟨Nat.le_of_ble_eq_true rfl, Nat.le_of_ble_eq_true rfl⟩) hD hS hA (fun En ce q9 H locs hxc hP hS hq9 hv9 hcl9 => ?_) (fun u H locs hp hP hD hS => ?_)
  · exact xx_out htab hlocks hK hq9 hv9 hcl9 hP hD hS (Or.inl hxc) (Nat.le_of_ble_eq_true rfl) (Nat.le_of_ble_eq_true rfl)
  obtain ⟨v_1, hu9⟩ := hp
  rw [hu9] at hP hD
  · refine lv_aload_n hx hb dX1_setCapacity_8 rfl (lv_at hl 0 rfl) ?_
    refine x_calli (va_runV (As := []) (rest := []) ⟨hx, hb, hml, hown, hts⟩ (k_X1_bytesThatCannotLeave l D ax ar ad cO H.size σ) (cwV 0 hts gX1_setCapacity_X1_bytesThatCannotLeave rfl rfl rfl (by decide +kernel) ⟨Nat.le_of_ble_eq_true rfl, Nat.le_of_ble_eq_true rfl⟩) (xPreV xE_ok hE hK hA hP hD hS (q0 := 0) (ci := 1) rfl rfl rfl) rfl rfl hl.1 rfl (lv_room (Nat.le_of_ble_eq_true rfl)) dX1_setCapacity_9 ⟨Nat.le_of_ble_eq_true rfl, Nat.le_of_ble_eq_true rfl⟩) hD hS hA (fun r u H locs hp hP hD hS => ?_)
    obtain ⟨rfl, hu9⟩ := hp
    rw [hu9] at hP hD
    refine lv_iload_n hx hb dX1_setCapacity_12 rfl (lv_at hl 1 rfl) ?_
    refine x_icmp_le (tgt := 26) hx hb dX1_setCapacity_13 (by decide) (fun c_2 => ?_) (fun c_2 => ?_)
    · refine lv_aload_n hx hb dX1_setCapacity_26 rfl (lv_at hl 0 rfl) ?_
      refine lv_iload_n hx hb dX1_setCapacity_27 rfl (lv_at hl 1 rfl) ?_
      refine c_put hx hb hts hi1 hown hK hP hD hS 3 (by decide) (List.mem_of_getElem? (i := 3) rfl) (v := .int t) (ty := .int) (uI σ 3 t) (cF_uI ar σ t).2.1 (fun _ => sF_uI _ _ _ _) (by decide) rfl (by decide +kernel) rfl rfl dX1_setCapacity_28 (fun _ h => h) (fun H locs hP hD hS => ?_)
      refine lv_aload_n hx hb dX1_setCapacity_31 rfl (lv_at hl 0 rfl) ?_
      refine x_calli (va_runV (As := []) (rest := []) ⟨hx, hb, hml, hown, hts⟩ (k_X1_used l D ax ar ad cO H.size (uI σ 3 t)) (cwV 0 hts gX1_setCapacity_X1_used rfl rfl rfl (by decide +kernel) ⟨Nat.le_of_ble_eq_true rfl, Nat.le_of_ble_eq_true rfl⟩) (xPreV xE_ok hE hK hA hP hD hS (q0 := 0) (ci := 1) rfl rfl rfl) rfl rfl hl.1 rfl (lv_room (Nat.le_of_ble_eq_true rfl)) dX1_setCapacity_32 ⟨Nat.le_of_ble_eq_true rfl, Nat.le_of_ble_eq_true rfl⟩) hD hS hA (fun r u H locs hp hP hD hS => ?_)
      obtain ⟨rfl, hu9⟩ := hp
      rw [hu9] at hP hD
      refine lv_iload_n hx hb dX1_setCapacity_35 rfl (lv_at hl 1 rfl) ?_
      refine lv_icmp_gt (tgt := 41) hx hb dX1_setCapacity_36 (by decide) (fun c_3 => ?_) (fun c_3 => ?_)
      · refine lv_aload_n hx hb dX1_setCapacity_41 rfl (lv_at hl 0 rfl) ?_
        refine x_calli (va_runV (As := []) (rest := []) ⟨hx, hb, hml, hown, hts⟩ (k_X1_removeAllOver l D ax ar ad cO H.size (uI σ 3 t)) (cwV 0 hts gX1_setCapacity_X1_removeAllOver rfl rfl rfl (by decide +kernel) ⟨Nat.le_of_ble_eq_true rfl, Nat.le_of_ble_eq_true rfl⟩) (xPreV xE_ok hE hK hA hP hD hS (q0 := 0) (ci := 1) rfl rfl rfl) rfl rfl hl.1 rfl (lv_room (Nat.le_of_ble_eq_true rfl)) dX1_setCapacity_42 ⟨Nat.le_of_ble_eq_true rfl, Nat.le_of_ble_eq_true rfl⟩) hD hS hA (fun r u H locs hp hP hD hS => ?_)
        obtain ⟨rfl, hu9⟩ := hp
        rw [hu9] at hP hD
        refine lv_pop hx hb dX1_setCapacity_45 rfl ?_
        refine lv_aload_n hx hb dX1_setCapacity_46 rfl (lv_at hl 0 rfl) ?_
        refine lv_iload_n hx hb dX1_setCapacity_47 rfl (lv_at hl 1 rfl) ?_
        refine x_calli (va_runV (As := [.int t]) (rest := []) ⟨hx, hb, hml, hown, hts⟩ (k_X1_leaveDownTo l D ax ar ad cO H.size (rmO (uI σ 3 t)) t) (cwV 1 hts gX1_setCapacity_X1_leaveDownTo rfl rfl rfl (by decide +kernel) ⟨Nat.le_of_ble_eq_true rfl, Nat.le_of_ble_eq_true rfl⟩) (xPreV xE_ok hE hK hA hP hD hS (q0 := 0) (ci := 1) rfl rfl rfl) rfl rfl hl.1 rfl (lv_room (Nat.le_of_ble_eq_true rfl)) dX1_setCapacity_48 ⟨Nat.le_of_ble_eq_true rfl, Nat.le_of_ble_eq_true rfl⟩) hD hS hA (fun r u H locs hp hP hD hS => ?_)
        obtain ⟨rfl, hu9⟩ := hp
        rw [hu9] at hP hD
        refine vx_ret ?_
        refine W.widen (k := 2) (n := 12) (by decide) (by decide) ?_
        exact x_iret hx hb hr hlocks hK (lvD t (rmO (uI σ 3 t))) hP hD hS ⟨v_1, c_2, by simp [cSetCap, c_3], by simp [cSetCap, c_3]⟩ dX1_setCapacity_51
      · refine lv_iconst (v := 0) hx hb dX1_setCapacity_39 (by decide) ?_
        refine vx_ret ?_
        refine W.widen (k := 2) (n := 12) (by decide) (by decide) ?_
        exact x_iret hx hb hr hlocks hK (uI σ 3 t) hP hD hS ⟨v_1, c_2, by simp [cSetCap, c_3], by simp [cSetCap, c_3]⟩ dX1_setCapacity_40
    · obtain ⟨sa, hsa⟩ := hE.1.2.1 (73, "the pinned entries are greater than the capacity") (List.mem_of_getElem? (i := 3) rfl)
      exact vx_throwS (A := A) (text := "the pinned entries are greater than the capacity") (names := ["java/lang/RuntimeException", "java/lang/Exception"]) (sa := sa) hx hb hfl hown (by decide +kernel) (by decide +kernel) (hts _ (List.mem_of_getElem? (i := 1) rfl)) (hts _ (List.mem_of_getElem? (i := 2) rfl)) hsa (hat_IS (fun w h => hts w (List.mem_cons_of_mem _ (List.mem_append_left _ (List.mem_append_right _ h)))) hE.1) hgd_IS hE.2.1 hE.2.2 hS (hl.1.trans hml.symm) dX1_setCapacity_16 dX1_setCapacity_19 dX1_setCapacity_20 dX1_setCapacity_22 dX1_setCapacity_25 (fun x hx => (htab x hx).elim) (Nat.le_of_ble_eq_true rfl) (Nat.le_of_ble_eq_true rfl) (Nat.le_of_ble_eq_true rfl) (Nat.le_of_ble_eq_true rfl) hlocks (fun t9 hvm9 hz9 hk9 => x_thr hK hP hD hS (Or.inr ⟨rfl, v_1, c_2⟩) hvm9 hz9 hk9) hS.2.2 (Nat.le_of_ble_eq_true rfl) (Nat.le_of_ble_eq_true rfl)
set_option maxHeartbeats 4000000 in
set_option maxRecDepth 100000 in
theorem k_X1_has (l : Launch) (D : va_G) (ax ar : Nat) (ad : Nat → Nat) (cO : ClassId) (sz : Nat) (σ : St) (t : Int32) (hfl : l.stackTraces = false) : vx_Met l yX1_has wsX1_has ({ frames := 7, cells := 1, slots := 6, locals := 120 } : Room) (va_Pc [.ref ax, .int t] (xPre D (cT cO) xE (cW ax ar ad cO) σ sz)) (va_Qi (fun (r : Int32) (u : St) => isT t = true ∧ (∀ k, k < 32 → t = nI k → r = bI (gB σ 1 k)) ∧ u = σ) (xB D (cT cO) (cW ax ar ad cO) (va_A (cW ax ar ad cO σ) sz)) (va_A (cW ax ar ad cO σ) sz)) (xXC D (cT cO) (cW ax ar ad cO) (va_A (cW ax ar ad cO σ) sz) σ (fun En => En = xIO ∧ isT t = false)) 1 6 (va_A (cW ax ar ad cO σ) sz) := by
  refine xxOpen (w := (cW ax ar ad cO)) (σ := σ) (cc := cX1_has) (maxL := 2) (ret := some .boolean) (QQ := fun A => va_Qi (fun (r : Int32) (u : St) => isT t = true ∧ (∀ k, k < 32 → t = nI k → r = bI (gB σ 1 k)) ∧ u = σ) (xB D (cT cO) (cW ax ar ad cO) A) A) (XX := fun A => xXC D (cT cO) (cW ax ar ad cO) A σ (fun En => En = xIO ∧ isT t = false)) (by decide) rfl (Nat.le_of_ble_eq_true rfl) ?_
  intro p e s m below meth c A hx hb hr hml hown hts hlocks htab hK hE hA hP hD hS ls hl
  have hl : lv_has ls 2 [(0, .ref ax), (1, .int t)] := hl
  have hown : s.vm.findClass RX1 = some m.cls := hown
  have hi0 : ∀ w ∈ wsX00, w ∈ wsX1_has := (fun _ h => List.mem_cons_of_mem _ (List.mem_append_left _ (List.mem_append_left _ (List.mem_append_right _ h))))
  have hi1 : ∀ w ∈ wsX10, w ∈ wsX1_has := (fun _ h => List.mem_cons_of_mem _ (List.mem_append_left _ (List.mem_append_right _ h)))
  generalize hH : s.heap = H at hP
  have hS : va_S A s.heap H [] := by rw [← hH]; exact va_S.rf
  generalize hlo : ([] : List Loc) = locs at hS
  refine lv_aload_n hx hb dX1_has_0 rfl (lv_at hl 0 rfl) ?_
  refine lv_iload_n hx hb dX1_has_1 rfl (lv_at hl 1 rfl) ?_
  refine xx_callq (vx_runV (As := [.int t]) (rest := []) ⟨hx, hb, hml, hown, hts⟩ (k_X1_slotOf l D ax ar ad cO H.size σ t hfl) (cwV 1 hts gX1_has_X1_slotOf rfl rfl rfl (by decide +kernel) ⟨Nat.le_of_ble_eq_true rfl, Nat.le_of_ble_eq_true rfl⟩) (xPreV xE_ok hE hK hA hP hD hS (q0 := 0) (ci := 1) rfl rfl rfl) rfl rfl hl.1 rfl (lv_room (Nat.le_of_ble_eq_true rfl)) dX1_has_2 ⟨Nat.le_of_ble_eq_true rfl, Nat.le_of_ble_eq_true rfl⟩) hD hS hA (fun En ce q9 H locs hxc hP hS hq9 hv9 hcl9 => ?_) (fun r u H locs hp hP hD hS => ?_)
  · exact xx_out htab hlocks hK hq9 hv9 hcl9 hP hD hS (hxc) (Nat.le_of_ble_eq_true rfl) (Nat.le_of_ble_eq_true rfl)
  obtain ⟨hT, hq, hu9⟩ := hp
  rw [hu9] at hP hD
  obtain ⟨k, hk, rfl⟩ := isT_nI hT
  obtain rfl := hq k hk rfl
  have hl : lv_has ls 2 [(0, .ref ax), (1, .int (nI k))] := hl
  refine W.eq (g2 := F0 m 5 ls [.ref (ad k)]) rfl ?_
  · refine s_get hx hb hts hi0 hown hK hE hP hk 1 (by decide) rfl (v := .int (bI (gB σ 1 k))) rfl dX1_has_5 (fun _ h => h) ?_
    refine vx_ret ?_
    refine W.widen (k := 1) (n := 6) (by decide) (by decide) ?_
    exact x_zret (b := gB σ 1 k) hx hb hr hlocks hK (σ) hP hD hS ⟨hT, fun j hj e9 => by rw [← nI_inj32 hk hj e9], rfl⟩ dX1_has_8
