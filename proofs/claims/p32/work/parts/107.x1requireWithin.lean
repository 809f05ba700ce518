set_option maxHeartbeats 4000000 in
set_option maxRecDepth 100000 in
theorem k_X1_requireWithin (l : Launch) (D : va_G) (ax ar : Nat) (ad : Nat → Nat) (cO : ClassId) (sz : Nat) (σ : St) (t a b : Int32) (hfl : l.stackTraces = false) : vx_Met l yX1_requireWithin wsX1_requireWithin ({ frames := 6, cells := 1, slots := 6, locals := 90 } : Room) (va_Pc [.int t, .int a, .int b] (xPre D (cT cO) xE (cW ax ar ad cO) σ sz)) (va_Qv (fun (u : St) => inR t a b = true ∧ u = σ) (xB D (cT cO) (cW ax ar ad cO) (va_A (cW ax ar ad cO σ) sz)) (va_A (cW ax ar ad cO σ) sz)) (xXC D (cT cO) (cW ax ar ad cO) (va_A (cW ax ar ad cO σ) sz) σ (fun En => En = xIA ∧ inR t a b = false)) 1 6 (va_A (cW ax ar ad cO σ) sz) := by
  refine xxOpen (w := (cW ax ar ad cO)) (σ := σ) (cc := cX1_requireWithin) (maxL := 3) (ret := none) (QQ := fun A => va_Qv (fun (u : St) => inR t a b = true ∧ u = σ) (xB D (cT cO) (cW ax ar ad cO) A) A) (XX := fun A => xXC D (cT cO) (cW ax ar ad cO) A σ (fun En => En = xIA ∧ inR t a b = false)) (by decide) rfl (Nat.le_of_ble_eq_true rfl) ?_
  intro p e s m below meth c A hx hb hr hml hown hts hlocks htab hK hE hA hP hD hS ls hl
  have hl : lv_has ls 3 [(0, .int t), (1, .int a), (2, .int b)] := hl
  have hown : s.vm.findClass RX1 = some m.cls := hown
  generalize hH : s.heap = H at hP
  have hS : va_S A s.heap H [] := by rw [← hH]; exact va_S.rf
  generalize hlo : ([] : List Loc) = locs at hS
  refine lv_iload_n hx hb dX1_requireWithin_0 rfl (lv_at hl 0 rfl) ?_
  refine lv_iload_n hx hb dX1_requireWithin_1 rfl (lv_at hl 1 rfl) ?_
  refine lv_icmp_lt (tgt := 10) hx hb dX1_requireWithin_2 (by decide) (fun c_1 => ?_) (fun c_1 => ?_)
  · obtain ⟨sa, hsa⟩ := hE.1.2.1 (153, "an argument is out of its range") (List.mem_of_getElem? (i := 1) rfl)
    exact vx_throwS (A := A) (text := "an argument is out of its range") (names := ["java/lang/RuntimeException", "java/lang/Exception"]) (sa := sa) hx hb hfl hown (by decide +kernel) (by decide +kernel) (hts _ (List.mem_of_getElem? (i := 1) rfl)) (hts _ (List.mem_of_getElem? (i := 2) rfl)) hsa (hat_IA (fun w h => hts w (List.mem_cons_of_mem _ (List.mem_append_right _ h))) hE.1) hgd_IA hE.2.1 hE.2.2 hS (hl.1.trans hml.symm) dX1_requireWithin_10 dX1_requireWithin_13 dX1_requireWithin_14 dX1_requireWithin_16 dX1_requireWithin_19 (fun x hx => (htab x hx).elim) (Nat.le_of_ble_eq_true rfl) (Nat.le_of_ble_eq_true rfl) (Nat.le_of_ble_eq_true rfl) (Nat.le_of_ble_eq_true rfl) hlocks (fun t9 hvm9 hz9 hk9 => x_thr hK hP hD hS (⟨rfl, by simp [inR, c_1]⟩) hvm9 hz9 hk9) hS.2.2 (Nat.le_of_ble_eq_true rfl) (Nat.le_of_ble_eq_true rfl)
  · refine lv_iload_n hx hb dX1_requireWithin_5 rfl (lv_at hl 0 rfl) ?_
    refine lv_iload_n hx hb dX1_requireWithin_6 rfl (lv_at hl 2 rfl) ?_
    refine x_icmp_le (tgt := 20) hx hb dX1_requireWithin_7 (by decide) (fun c_2 => ?_) (fun c_2 => ?_)
    · refine vx_ret ?_
      refine W.widen (k := 1) (n := 6) (by decide) (by decide) ?_
      exact x_vret hx hb hr hlocks hK (σ) hP hD hS ⟨by simp [inR, c_1, c_2], rfl⟩ dX1_requireWithin_20
    · obtain ⟨sa, hsa⟩ := hE.1.2.1 (153, "an argument is out of its range") (List.mem_of_getElem? (i := 1) rfl)
      exact vx_throwS (A := A) (text := "an argument is out of its range") (names := ["java/lang/RuntimeException", "java/lang/Exception"]) (sa := sa) hx hb hfl hown (by decide +kernel) (by decide +kernel) (hts _ (List.mem_of_getElem? (i := 1) rfl)) (hts _ (List.mem_of_getElem? (i := 2) rfl)) hsa (hat_IA (fun w h => hts w (List.mem_cons_of_mem _ (List.mem_append_right _ h))) hE.1) hgd_IA hE.2.1 hE.2.2 hS (hl.1.trans hml.symm) dX1_requireWithin_10 dX1_requireWithin_13 dX1_requireWithin_14 dX1_requireWithin_16 dX1_requireWithin_19 (fun x hx => (htab x hx).elim) (Nat.le_of_ble_eq_true rfl) (Nat.le_of_ble_eq_true rfl) (Nat.le_of_ble_eq_true rfl) (Nat.le_of_ble_eq_true rfl) hlocks (fun t9 hvm9 hz9 hk9 => x_thr hK hP hD hS (⟨rfl, by simp [inR, c_1, c_2]⟩) hvm9 hz9 hk9) hS.2.2 (Nat.le_of_ble_eq_true rfl) (Nat.le_of_ble_eq_true rfl)
set_option maxHeartbeats 4000000 in
set_option maxRecDepth 100000 in
theorem k_X1_slotOf (l : Launch) (D : va_G) (ax ar : Nat) (ad : Nat → Nat) (cO : ClassId) (sz : Nat) (σ : St) (t : Int32) (hfl : l.stackTraces = false) : vx_Met l yX1_slotOf wsX1_slotOf ({ frames := 6, cells := 1, slots := 6, locals := 90 } : Room) (va_Pc [.ref ax, .int t] (xPre D (cT cO) xE (cW ax ar ad cO) σ sz)) (va_Qq (fun (r : Option Nat) (u : St) => isT t = true ∧ (∀ k, k < 32 → t = nI k → r = some (ad k)) ∧ u = σ) (xB D (cT cO) (cW ax ar ad cO) (va_A (cW ax ar ad cO σ) sz)) (va_A (cW ax ar ad cO σ) sz)) (xXC D (cT cO) (cW ax ar ad cO) (va_A (cW ax ar ad cO σ) sz) σ (fun En => En = xIO ∧ isT t = false)) 1 6 (va_A (cW ax ar ad cO σ) sz) := by
  refine xxOpen (w := (cW ax ar ad cO)) (σ := σ) (cc := cX1_slotOf) (maxL := 2) (ret := some (.object "WorthCache$Slot")) (QQ := fun A => va_Qq (fun (r : Option Nat) (u : St) => isT t = true ∧ (∀ k, k < 32 → t = nI k → r = some (ad k)) ∧ u = σ) (xB D (cT cO) (cW ax ar ad cO) A) A) (XX := fun A => xXC D (cT cO) (cW ax ar ad cO) A σ (fun En => En = xIO ∧ isT t = false)) (by decide) rfl (Nat.le_of_ble_eq_true rfl) ?_
  intro p e s m below meth c A hx hb hr hml hown hts hlocks htab hK hE hA hP hD hS ls hl
  have hl : lv_has ls 2 [(0, .ref ax), (1, .int t)] := hl
  have hown : s.vm.findClass RX1 = some m.cls := hown
  have hi1 : ∀ w ∈ wsX10, w ∈ wsX1_slotOf := (fun _ h => List.mem_cons_of_mem _ (List.mem_append_left _ (List.mem_append_right _ h)))
  generalize hH : s.heap = H at hP
  have hS : va_S A s.heap H [] := by rw [← hH]; exact va_S.rf
  generalize hlo : ([] : List Loc) = locs at hS
  refine lv_iload_n hx hb dX1_slotOf_0 rfl (lv_at hl 1 rfl) ?_
  refine lv_if_lt (tgt := 13) hx hb dX1_slotOf_1 (by decide) (fun c_1 => ?_) (fun c_1 => ?_)
  · obtain ⟨sa, hsa⟩ := hE.1.2.1 (147, "no such thing") (List.mem_of_getElem? (i := 0) rfl)
    exact vx_throwS (A := A) (text := "no such thing") (names := ["java/lang/RuntimeException", "java/lang/Exception"]) (sa := sa) hx hb hfl hown (by decide +kernel) (by decide +kernel) (hts _ (List.mem_of_getElem? (i := 1) rfl)) (hts _ (List.mem_of_getElem? (i := 2) rfl)) hsa (hat_IO (fun w h => hts w (List.mem_cons_of_mem _ (List.mem_append_right _ h))) hE.1) hgd_IO hE.2.1 hE.2.2 hS (hl.1.trans hml.symm) dX1_slotOf_13 dX1_slotOf_16 dX1_slotOf_17 dX1_slotOf_19 dX1_slotOf_22 (fun x hx => (htab x hx).elim) (Nat.le_of_ble_eq_true rfl) (Nat.le_of_ble_eq_true rfl) (Nat.le_of_ble_eq_true rfl) (Nat.le_of_ble_eq_true rfl) hlocks (fun t9 hvm9 hz9 hk9 => x_thr hK hP hD hS (⟨rfl, by simp [isT, c_1]⟩) hvm9 hz9 hk9) hS.2.2 (Nat.le_of_ble_eq_true rfl) (Nat.le_of_ble_eq_true rfl)
  · refine lv_iload_n hx hb dX1_slotOf_4 rfl (lv_at hl 1 rfl) ?_
    refine lv_aload_n hx hb dX1_slotOf_5 rfl (lv_at hl 0 rfl) ?_
    refine c_get hx hb hts hi1 hown hK hP 0 (by decide) (List.mem_of_getElem? (i := 3) rfl) (v := .ref ar) rfl dX1_slotOf_6 (fun _ h => h) ?_
    refine c_alen hx hb hK hP dX1_slotOf_9 ?_
    refine lv_icmp_lt (tgt := 23) hx hb dX1_slotOf_10 (by decide) (fun c_2 => ?_) (fun c_2 => ?_)
    · have hT : isT t = true := by simp [isT, c_1, c_2]
      obtain ⟨k, hk, rfl⟩ := isT_nI hT
      refine lv_aload_n hx hb dX1_slotOf_23 rfl (lv_at hl 0 rfl) ?_
      refine c_get hx hb hts hi1 hown hK hP 0 (by decide) (List.mem_of_getElem? (i := 3) rfl) (v := .ref ar) rfl dX1_slotOf_24 (fun _ h => h) ?_
      refine lv_iload_n hx hb dX1_slotOf_27 rfl (lv_at hl 1 rfl) ?_
      refine c_aald hx hb hK hP hk dX1_slotOf_28 ?_
      refine vx_ret ?_
      refine W.widen (k := 1) (n := 6) (by decide) (by decide) ?_
      exact x_qret (r := some (ad k)) hx hb hr hlocks hK (σ) hP hD hS ⟨hT, fun j hj e => by rw [nI_inj32 hk hj e], rfl⟩ dX1_slotOf_29
    · obtain ⟨sa, hsa⟩ := hE.1.2.1 (147, "no such thing") (List.mem_of_getElem? (i := 0) rfl)
      exact vx_throwS (A := A) (text := "no such thing") (names := ["java/lang/RuntimeException", "java/lang/Exception"]) (sa := sa) hx hb hfl hown (by decide +kernel) (by decide +kernel) (hts _ (List.mem_of_getElem? (i := 1) rfl)) (hts _ (List.mem_of_getElem? (i := 2) rfl)) hsa (hat_IO (fun w h => hts w (List.mem_cons_of_mem _ (List.mem_append_right _ h))) hE.1) hgd_IO hE.2.1 hE.2.2 hS (hl.1.trans hml.symm) dX1_slotOf_13 dX1_slotOf_16 dX1_slotOf_17 dX1_slotOf_19 dX1_slotOf_22 (fun x hx => (htab x hx).elim) (Nat.le_of_ble_eq_true rfl) (Nat.le_of_ble_eq_true rfl) (Nat.le_of_ble_eq_true rfl) (Nat.le_of_ble_eq_true rfl) hlocks (fun t9 hvm9 hz9 hk9 => x_thr hK hP hD hS (⟨rfl, by simp [isT, c_1, c_2]⟩) hvm9 hz9 hk9) hS.2.2 (Nat.le_of_ble_eq_true rfl) (Nat.le_of_ble_eq_true rfl)
set_option maxHeartbeats 4000000 in
set_option maxRecDepth 100000 in
theorem k_X1_filledSlotOf (l : Launch) (D : va_G) (ax ar : Nat) (ad : Nat → Nat) (cO : ClassId) (sz : Nat) (σ : St) (t : Int32) (hfl : l.stackTraces = false) : vx_Met l yX1_filledSlotOf wsX1_filledSlotOf ({ frames := 7, cells := 2, slots := 12, locals := 120 } : Room) (va_Pc [.ref ax, .int t] (xPre D (cT cO) xE (cW ax ar ad cO) σ sz)) (va_Qq (fun (r : Option Nat) (u : St) => isT t = true ∧ (∀ k, k < 32 → t = nI k → gB σ 1 k = true ∧ r = some (ad k)) ∧ u = σ) (xB D (cT cO) (cW ax ar ad cO) (va_A (cW ax ar ad cO σ) sz)) (va_A (cW ax ar ad cO σ) sz)) (xXC D (cT cO) (cW ax ar ad cO) (va_A (cW ax ar ad cO σ) sz) σ (fun En => (En = xIO ∧ isT t = false) ∨ (En = xIS ∧ isT t = true ∧ ∀ k, k < 32 → t = nI k → gB σ 1 k = false))) 2 12 (va_A (cW ax ar ad cO σ) sz) := by
  refine xxOpen (w := (cW ax ar ad cO)) (σ := σ) (cc := cX1_filledSlotOf) (maxL := 3) (ret := some (.object "WorthCache$Slot")) (QQ := fun A => va_Qq (fun (r : Option Nat) (u : St) => isT t = true ∧ (∀ k, k < 32 → t = nI k → gB σ 1 k = true ∧ r = some (ad k)) ∧ u = σ) (xB D (cT cO) (cW ax ar ad cO) A) A) (XX := fun A => xXC D (cT cO) (cW ax ar ad cO) A σ (fun En => (En = xIO ∧ isT t = false) ∨ (En = xIS ∧ isT t = true ∧ ∀ k, k < 32 → t = nI k → gB σ 1 k = false))) (by decide) rfl (Nat.le_of_ble_eq_true rfl) ?_
  intro p e s m below meth c A hx hb hr hml hown hts hlocks htab hK hE hA hP hD hS ls hl
  have hl : lv_has ls 3 [(0, .ref ax), (1, .int t)] := hl
  have hown : s.vm.findClass RX1 = some m.cls := hown
  have hi0 : ∀ w ∈ wsX00, w ∈ wsX1_filledSlotOf := (fun _ h => List.mem_cons_of_mem _ (List.mem_append_left _ (List.mem_append_left _ (List.mem_append_left _ (List.mem_append_right _ h)))))
  have hi1 : ∀ w ∈ wsX10, w ∈ wsX1_filledSlotOf := (fun _ h => List.mem_cons_of_mem _ (List.mem_append_left _ (List.mem_append_left _ (List.mem_append_right _ h))))
  generalize hH : s.heap = H at hP
  have hS : va_S A s.heap H [] := by rw [← hH]; exact va_S.rf
  generalize hlo : ([] : List Loc) = locs at hS
  refine lv_aload_n hx hb dX1_filledSlotOf_0 rfl (lv_at hl 0 rfl) ?_
  refine lv_iload_n hx hb dX1_filledSlotOf_1 rfl (lv_at hl 1 rfl) ?_
  refine xx_callq (vx_runV (As := [.int t]) (rest := []) ⟨hx, hb, hml, hown, hts⟩ (k_X1_slotOf l D ax ar ad cO H.size σ t hfl) (cwV 1 hts gX1_filledSlotOf_X1_slotOf rfl rfl rfl (by decide +kernel) ⟨Nat.le_of_ble_eq_true rfl, Nat.le_of_ble_eq_true rfl⟩) (xPreV xE_ok hE hK hA hP hD hS (q0 := 0) (ci := 1) rfl rfl rfl) rfl rfl hl.1 rfl (lv_room (Nat.le_of_ble_eq_true rfl)) dX1_filledSlotOf_2 ⟨Nat.le_of_ble_eq_true rfl, Nat.le_of_ble_eq_true rfl⟩) hD hS hA (fun En ce q9 H locs hxc hP hS hq9 hv9 hcl9 => ?_) (fun r u H locs hp hP hD hS => ?_)
  · exact xx_out htab hlocks hK hq9 hv9 hcl9 hP hD hS (Or.inl hxc) (Nat.le_of_ble_eq_true rfl) (Nat.le_of_ble_eq_true rfl)
  obtain ⟨hT, hq, hu9⟩ := hp
  rw [hu9] at hP hD
  obtain ⟨k, hk, rfl⟩ := isT_nI hT
  obtain rfl := hq k hk rfl
  have hl : lv_has ls 3 [(0, .ref ax), (1, .int (nI k))] := hl
  refine W.eq (g2 := F0 m 5 ls [.ref (ad k)]) rfl ?_
  · refine lv_astore_n (lv' := [(2, .ref (ad k)), (0, .ref ax), (1, .int (nI k))]) hx hb dX1_filledSlotOf_5 rfl hl (by decide) rfl (fun ls hl => ?_)
    refine lv_aload_n hx hb dX1_filledSlotOf_6 rfl (lv_at hl 0 rfl) ?_
    refine s_get hx hb hts hi0 hown hK hE hP hk 1 (by decide) rfl (v := .int (bI (gB σ 1 k))) rfl dX1_filledSlotOf_7 (fun _ h => h) ?_
    refine x_ifne (tgt := 23) hx hb dX1_filledSlotOf_10 (by decide) (fun c_1 => ?_) (fun c_1 => ?_)
    · refine lv_aload_n hx hb dX1_filledSlotOf_23 rfl (lv_at hl 0 rfl) ?_
      refine vx_ret ?_
      refine W.widen (k := 2) (n := 12) (by decide) (by decide) ?_
      exact x_qret (r := some (ad k)) hx hb hr hlocks hK (σ) hP hD hS ⟨hT, fun j hj e => ⟨by rw [← nI_inj32 hk hj e]; exact c_1, by rw [nI_inj32 hk hj e]⟩, rfl⟩ dX1_filledSlotOf_24
    · obtain ⟨sa, hsa⟩ := hE.1.2.1 (149, "the thing has no entry") (List.mem_of_getElem? (i := 2) rfl)
      exact vx_throwS (A := A) (text := "the thing has no entry") (names := ["java/lang/RuntimeException", "java/lang/Exception"]) (sa := sa) hx hb hfl hown (by decide +kernel) (by decide +kernel) (hts _ (List.mem_of_getElem? (i := 1) rfl)) (hts _ (List.mem_of_getElem? (i := 2) rfl)) hsa (hat_IS (fun w h => hts w (List.mem_cons_of_mem _ (List.mem_append_left _ (List.mem_append_right _ h)))) hE.1) hgd_IS hE.2.1 hE.2.2 hS (hl.1.trans hml.symm) dX1_filledSlotOf_13 dX1_filledSlotOf_16 dX1_filledSlotOf_17 dX1_filledSlotOf_19 dX1_filledSlotOf_22 (fun x hx => (htab x hx).elim) (Nat.le_of_ble_eq_true rfl) (Nat.le_of_ble_eq_true rfl) (Nat.le_of_ble_eq_true rfl) (Nat.le_of_ble_eq_true rfl) hlocks (fun t9 hvm9 hz9 hk9 => x_thr hK hP hD hS (Or.inr ⟨rfl, hT, fun j hj e => by rw [← nI_inj32 hk hj e]; exact c_1⟩) hvm9 hz9 hk9) hS.2.2 (Nat.le_of_ble_eq_true rfl) (Nat.le_of_ble_eq_true rfl)
