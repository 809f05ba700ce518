set_option maxHeartbeats 4000000 in
set_option maxRecDepth 100000 in
theorem k_X1_countMiss (l : Launch) (D : va_G) (ax ar : Nat) (ad : Nat → Nat) (cO : ClassId) (sz : Nat) (σ : St) (pr : Int32) : Met l yX1_countMiss wsX1_countMiss ({ frames := 0, cells := 0, slots := 0, locals := 0 } : Room) (va_Pc [.ref ax, .int pr] (xPre D (cT cO) xE (cW ax ar ad cO) σ sz)) (va_Qv (fun (u : St) => u = cMiss σ pr) (xB D (cT cO) (cW ax ar ad cO) (va_A (cW ax ar ad cO σ) sz)) (va_A (cW ax ar ad cO σ) sz)) 0 0 (va_A (cW ax ar ad cO σ) sz) := by
  refine xOpen (w := (cW ax ar ad cO)) (σ := σ) (cc := cX1_countMiss) (maxL := 2) (ret := none) (QQ := fun A => va_Qv (fun (u : St) => u = cMiss σ pr) (xB D (cT cO) (cW ax ar ad cO) A) A) (by decide) rfl (Nat.le_of_ble_eq_true rfl) ?_
  intro p e s m below meth c A hx hb hr hml hown hts hlocks hname hK hE hA hP hD hS ls hl
  have hl : lv_has ls 2 [(0, .ref ax), (1, .int pr)] := hl
  have hown : s.vm.findClass RX1 = some m.cls := hown
  have hi1 : ∀ w ∈ wsX10, w ∈ wsX1_countMiss := (fun _ h => List.mem_cons_of_mem _ (List.mem_append_right _ h))
  generalize hH : s.heap = H at hP
  have hS : va_S A s.heap H [] := by rw [← hH]; exact va_S.rf
  generalize hlo : ([] : List Loc) = locs at hS
  refine lv_aload_n hx hb dX1_countMiss_0 rfl (lv_at hl 0 rfl) ?_
  refine lv_dup hx hb dX1_countMiss_1 rfl ?_
  refine c_get hx hb hts hi1 hown hK hP 7 (by decide) (List.mem_of_getElem? (i := 1) rfl) (v := .int (gI σ 7)) rfl dX1_countMiss_2 (fun _ h => h) ?_
  refine lv_iconst (v := 1) hx hb dX1_countMiss_5 (by decide) ?_
  refine lv_iadd hx hb dX1_countMiss_6 ?_
  refine c_put hx hb hts hi1 hown hK hP hD hS 7 (by decide) (List.mem_of_getElem? (i := 1) rfl) (v := .int ((gI σ 7) + 1)) (ty := .int) (uI σ 7 ((gI σ 7) + 1)) (cF_uI ar σ ((gI σ 7) + 1)).2.2.2.2.1 (fun _ => sF_uI _ _ _ _) (by decide) rfl (by decide +kernel) rfl rfl dX1_countMiss_7 (fun _ h => h) (fun H locs hP hD hS => ?_)
  refine lv_aload_n hx hb dX1_countMiss_10 rfl (lv_at hl 0 rfl) ?_
  refine lv_dup hx hb dX1_countMiss_11 rfl ?_
  refine c_get hx hb hts hi1 hown hK hP 10 (by decide) (List.mem_of_getElem? (i := 2) rfl) (v := .long (gL σ 10)) rfl dX1_countMiss_12 (fun _ h => h) ?_
  refine lv_iload_n hx hb dX1_countMiss_15 rfl (lv_at hl 1 rfl) ?_
  refine lv_i2l (v := pr.toInt64) hx hb dX1_countMiss_16 rfl ?_
  refine lv_ladd hx hb dX1_countMiss_17 ?_
  refine c_put hx hb hts hi1 hown hK hP hD hS 10 (by decide) (List.mem_of_getElem? (i := 2) rfl) (v := .long ((gL σ 10) + pr.toInt64)) (ty := .long) (uL (uI σ 7 ((gI σ 7) + 1)) 10 ((gL σ 10) + pr.toInt64)) (cF_uL ar (uI σ 7 ((gI σ 7) + 1)) ((gL σ 10) + pr.toInt64)).2.2.2.2 (fun _ => sF_uL _ _ _ _) (by decide) rfl (by decide +kernel) rfl rfl dX1_countMiss_18 (fun _ h => h) (fun H locs hP hD hS => ?_)
  exact x_vret hx hb hr hlocks hK (uL (uI σ 7 ((gI σ 7) + 1)) 10 ((gL σ 10) + pr.toInt64)) hP hD hS rfl dX1_countMiss_21
set_option maxHeartbeats 4000000 in
set_option maxRecDepth 100000 in
theorem k_X1_wasMissedLately (l : Launch) (D : va_G) (ax ar : Nat) (ad : Nat → Nat) (cO : ClassId) (sz : Nat) (σ : St) {k : Nat} (hk : k < 32) : Met l yX1_wasMissedLately wsX1_wasMissedLately ({ frames := 0, cells := 0, slots := 0, locals := 0 } : Room) (va_Pc [.ref ax, .ref (ad k)] (xPre D (cT cO) xE (cW ax ar ad cO) σ sz)) (va_Qi (fun (r : Int32) (u : St) => r = bI (cLate σ k) ∧ u = σ) (xB D (cT cO) (cW ax ar ad cO) (va_A (cW ax ar ad cO σ) sz)) (va_A (cW ax ar ad cO σ) sz)) 0 0 (va_A (cW ax ar ad cO σ) sz) := by
  refine xOpen (w := (cW ax ar ad cO)) (σ := σ) (cc := cX1_wasMissedLately) (maxL := 2) (ret := some .boolean) (QQ := fun A => va_Qi (fun (r : Int32) (u : St) => r = bI (cLate σ k) ∧ u = σ) (xB D (cT cO) (cW ax ar ad cO) A) A) (by decide) rfl (Nat.le_of_ble_eq_true rfl) ?_
  intro p e s m below meth c A hx hb hr hml hown hts hlocks hname hK hE hA hP hD hS ls hl
  have hl : lv_has ls 2 [(0, .ref ax), (1, .ref (ad k))] := hl
  have hown : s.vm.findClass RX1 = some m.cls := hown
  have hi0 : ∀ w ∈ wsX00, w ∈ wsX1_wasMissedLately := (fun _ h => List.mem_cons_of_mem _ (List.mem_append_left _ (List.mem_append_right _ h)))
  have hi1 : ∀ w ∈ wsX10, w ∈ wsX1_wasMissedLately := (fun _ h => List.mem_cons_of_mem _ (List.mem_append_right _ h))
  generalize hH : s.heap = H at hP
  have hS : va_S A s.heap H [] := by rw [← hH]; exact va_S.rf
  generalize hlo : ([] : List Loc) = locs at hS
  refine lv_aload_n hx hb dX1_wasMissedLately_0 rfl (lv_at hl 1 rfl) ?_
  refine s_get hx hb hts hi0 hown hK hE hP hk 8 (by decide) rfl (v := .int (gS σ 8 k)) rfl dX1_wasMissedLately_1 (fun _ h => h) ?_
  refine lv_iconst (v := (-1)) hx hb dX1_wasMissedLately_4 (by decide) ?_
  refine lv_icmp_eq (tgt := 26) hx hb dX1_wasMissedLately_5 (by decide) (fun c_1 => ?_) (fun c_1 => ?_)
  · refine lv_iconst (v := 0) hx hb dX1_wasMissedLately_26 (by decide) ?_
    exact x_zret (b := false) hx hb hr hlocks hK (σ) hP hD hS ⟨by simp only [cLate]; simp [c_1], rfl⟩ dX1_wasMissedLately_27
  · refine lv_aload_n hx hb dX1_wasMissedLately_8 rfl (lv_at hl 0 rfl) ?_
    refine c_get hx hb hts hi1 hown hK hP 1 (by decide) (List.mem_of_getElem? (i := 1) rfl) (v := .int (gI σ 1)) rfl dX1_wasMissedLately_9 (fun _ h => h) ?_
    refine lv_aload_n hx hb dX1_wasMissedLately_12 rfl (lv_at hl 1 rfl) ?_
    refine s_get hx hb hts hi0 hown hK hE hP hk 8 (by decide) rfl (v := .int (gS σ 8 k)) rfl dX1_wasMissedLately_13 (fun _ h => h) ?_
    refine lv_isub hx hb dX1_wasMissedLately_16 ?_
    refine lv_bipush (v := 50) hx hb dX1_wasMissedLately_17 (by decide) ?_
    refine lv_icmp_gt (tgt := 26) hx hb dX1_wasMissedLately_19 (by decide) (fun c_2 => ?_) (fun c_2 => ?_)
    · refine lv_iconst (v := 0) hx hb dX1_wasMissedLately_26 (by decide) ?_
      exact x_zret (b := false) hx hb hr hlocks hK (σ) hP hD hS ⟨by simp only [cLate]; simp [c_1, c_2], rfl⟩ dX1_wasMissedLately_27
    · refine lv_iconst (v := 1) hx hb dX1_wasMissedLately_22 (by decide) ?_
      refine lv_goto (tgt := 27) hx hb dX1_wasMissedLately_23 (by decide) ?_
      exact x_zret (b := true) hx hb hr hlocks hK (σ) hP hD hS ⟨by simp only [cLate]; simp [c_1, c_2], rfl⟩ dX1_wasMissedLately_27
set_option maxHeartbeats 4000000 in
set_option maxRecDepth 100000 in
theorem k_X1_removeOwn (l : Launch) (D : va_G) (ax ar : Nat) (ad : Nat → Nat) (cO : ClassId) (sz : Nat) (σ : St) {k : Nat} (hk : k < 32) : Met l yX1_removeOwn wsX1_removeOwn ({ frames := 1, cells := 0, slots := 0, locals := 40 } : Room) (va_Pc [.ref ax, .ref (ad k)] (xPre D (cT cO) xE (cW ax ar ad cO) σ sz)) (va_Qv (fun (u : St) => u = cRmOwn σ k) (xB D (cT cO) (cW ax ar ad cO) (va_A (cW ax ar ad cO σ) sz)) (va_A (cW ax ar ad cO σ) sz)) 0 0 (va_A (cW ax ar ad cO σ) sz) := by
  refine xOpen (w := (cW ax ar ad cO)) (σ := σ) (cc := cX1_removeOwn) (maxL := 2) (ret := none) (QQ := fun A => va_Qv (fun (u : St) => u = cRmOwn σ k) (xB D (cT cO) (cW ax ar ad cO) A) A) (by decide) rfl (Nat.le_of_ble_eq_true rfl) ?_
  intro p e s m below meth c A hx hb hr hml hown hts hlocks hname hK hE hA hP hD hS ls hl
  have hl : lv_has ls 2 [(0, .ref ax), (1, .ref (ad k))] := hl
  have hown : s.vm.findClass RX1 = some m.cls := hown
  have hi0 : ∀ w ∈ wsX00, w ∈ wsX1_removeOwn := (fun _ h => List.mem_cons_of_mem _ (List.mem_append_left _ (List.mem_append_right _ h)))
  have hi1 : ∀ w ∈ wsX10, w ∈ wsX1_removeOwn := (fun _ h => List.mem_cons_of_mem _ (List.mem_append_right _ h))
  generalize hH : s.heap = H at hP
  have hS : va_S A s.heap H [] := by rw [← hH]; exact va_S.rf
  generalize hlo : ([] : List Loc) = locs at hS
  refine lv_aload_n hx hb dX1_removeOwn_0 rfl (lv_at hl 1 rfl) ?_
  refine s_get hx hb hts hi0 hown hK hE hP hk 1 (by decide) rfl (v := .int (bI (gB σ 1 k))) rfl dX1_removeOwn_1 (fun _ h => h) ?_
  refine x_ifeq (tgt := 25) hx hb dX1_removeOwn_4 (by decide) (fun c_1 => ?_) (fun c_1 => ?_)
  · refine lv_aload_n hx hb dX1_removeOwn_25 rfl (lv_at hl 1 rfl) ?_
    refine lv_iconst (v := 0) hx hb dX1_removeOwn_26 (by decide) ?_
    refine s_put hx hb hts hi0 hown hK hE hP hD hS hk 1 (by decide) rfl (v := .int (bI false)) (ty := .boolean) (uB σ 1 k false) ((sF_self σ k).2.2.2.2.2.2.1 _) (fun i9 hi9 => (sF_other σ hi9).2.2.2.2.2.2.1 _) (cF_uB _ _ _ _ _) rfl (by decide +kernel) (bI_nar _) (bI_fit _) dX1_removeOwn_27 (fun _ h => h) (fun H locs hP hD hS => ?_)
    exact x_vret hx hb hr hlocks hK (uB σ 1 k false) hP hD hS (by simp [cRmOwn, c_1]) dX1_removeOwn_30
  · refine lv_aload_n hx hb dX1_removeOwn_7 rfl (lv_at hl 0 rfl) ?_
    refine lv_aload_n hx hb dX1_removeOwn_8 rfl (lv_at hl 1 rfl) ?_
    refine x_calli (va_runV (As := [.ref (ad k)]) (rest := []) ⟨hx, hb, hml, hown, hts⟩ (k_X1_hasEnded l D ax ar ad cO H.size σ hk) (cwV 1 hts gX1_removeOwn_X1_hasEnded rfl rfl rfl (by decide +kernel) ⟨Nat.le_of_ble_eq_true rfl, Nat.le_of_ble_eq_true rfl⟩) (xPreV xE_ok hE hK hA hP hD hS (q0 := 0) (ci := 1) rfl rfl rfl) rfl rfl hl.1 rfl (lv_room (Nat.le_of_ble_eq_true rfl)) dX1_removeOwn_9 ⟨Nat.le_of_ble_eq_true rfl, Nat.le_of_ble_eq_true rfl⟩) hD hS hA (fun r u H locs hp hP hD hS => ?_)
    obtain ⟨rfl, hu9⟩ := hp
    rw [hu9] at hP hD
    refine x_ifeq (tgt := 25) hx hb dX1_removeOwn_12 (by decide) (fun c_2 => ?_) (fun c_2 => ?_)
    · refine lv_aload_n hx hb dX1_removeOwn_25 rfl (lv_at hl 1 rfl) ?_
      refine lv_iconst (v := 0) hx hb dX1_removeOwn_26 (by decide) ?_
      refine s_put hx hb hts hi0 hown hK hE hP hD hS hk 1 (by decide) rfl (v := .int (bI false)) (ty := .boolean) (uB σ 1 k false) ((sF_self σ k).2.2.2.2.2.2.1 _) (fun i9 hi9 => (sF_other σ hi9).2.2.2.2.2.2.1 _) (cF_uB _ _ _ _ _) rfl (by decide +kernel) (bI_nar _) (bI_fit _) dX1_removeOwn_27 (fun _ h => h) (fun H locs hP hD hS => ?_)
      exact x_vret hx hb hr hlocks hK (uB σ 1 k false) hP hD hS (by simp [cRmOwn, c_1, c_2]) dX1_removeOwn_30
    · refine lv_aload_n hx hb dX1_removeOwn_15 rfl (lv_at hl 0 rfl) ?_
      refine lv_dup hx hb dX1_removeOwn_16 rfl ?_
      refine c_get hx hb hts hi1 hown hK hP 12 (by decide) (List.mem_of_getElem? (i := 1) rfl) (v := .int (gI σ 12)) rfl dX1_removeOwn_17 (fun _ h => h) ?_
      refine lv_iconst (v := 1) hx hb dX1_removeOwn_20 (by decide) ?_
      refine lv_iadd hx hb dX1_removeOwn_21 ?_
      refine c_put hx hb hts hi1 hown hK hP hD hS 12 (by decide) (List.mem_of_getElem? (i := 1) rfl) (v := .int ((gI σ 12) + 1)) (ty := .int) (uI σ 12 ((gI σ 12) + 1)) (cF_uI ar σ ((gI σ 12) + 1)).2.2.2.2.2.2 (fun _ => sF_uI _ _ _ _) (by decide) rfl (by decide +kernel) rfl rfl dX1_removeOwn_22 (fun _ h => h) (fun H locs hP hD hS => ?_)
      refine lv_aload_n hx hb dX1_removeOwn_25 rfl (lv_at hl 1 rfl) ?_
      refine lv_iconst (v := 0) hx hb dX1_removeOwn_26 (by decide) ?_
      refine s_put hx hb hts hi0 hown hK hE hP hD hS hk 1 (by decide) rfl (v := .int (bI false)) (ty := .boolean) (uB (uI σ 12 ((gI σ 12) + 1)) 1 k false) ((sF_self (uI σ 12 ((gI σ 12) + 1)) k).2.2.2.2.2.2.1 _) (fun i9 hi9 => (sF_other (uI σ 12 ((gI σ 12) + 1)) hi9).2.2.2.2.2.2.1 _) (cF_uB _ _ _ _ _) rfl (by decide +kernel) (bI_nar _) (bI_fit _) dX1_removeOwn_27 (fun _ h => h) (fun H locs hP hD hS => ?_)
      exact x_vret hx hb hr hlocks hK (uB (uI σ 12 ((gI σ 12) + 1)) 1 k false) hP hD hS (by simp [cRmOwn, c_1, c_2]) dX1_removeOwn_30
