set_option maxHeartbeats 4000000 in
set_option maxRecDepth 100000 in
theorem k_X1_fill (l : Launch) (D : va_G) (ax ar : Nat) (ad : Nat → Nat) (cO : ClassId) (sz : Nat) (σ : St) {k : Nat} (sz9 pr lf : Int32) (hk : k < 32) : Met l yX1_fill wsX1_fill ({ frames := 1, cells := 0, slots := 0, locals := 40 } : Room) (va_Pc [.ref ax, .ref (ad k), .int sz9, .int pr, .int lf] (xPre D (cT cO) xE (cW ax ar ad cO) σ sz)) (va_Qv (fun (u : St) => u = cFill σ k sz9 pr lf) (xB D (cT cO) (cW ax ar ad cO) (va_A (cW ax ar ad cO σ) sz)) (va_A (cW ax ar ad cO σ) sz)) 0 0 (va_A (cW ax ar ad cO σ) sz) := by
  refine xOpen (w := (cW ax ar ad cO)) (σ := σ) (cc := cX1_fill) (maxL := 5) (ret := none) (QQ := fun A => va_Qv (fun (u : St) => u = cFill σ k sz9 pr lf) (xB D (cT cO) (cW ax ar ad cO) A) A) (by decide) rfl (Nat.le_of_ble_eq_true rfl) ?_
  intro p e s m below meth c A hx hb hr hml hown hts hlocks hname hK hE hA hP hD hS ls hl
  have hl : lv_has ls 5 [(0, .ref ax), (1, .ref (ad k)), (2, .int sz9), (3, .int pr), (4, .int lf)] := hl
  have hown : s.vm.findClass RX1 = some m.cls := hown
  have hi0 : ∀ w ∈ wsX00, w ∈ wsX1_fill := (fun _ h => List.mem_cons_of_mem _ (List.mem_append_left _ (List.mem_append_right _ h)))
  have hi1 : ∀ w ∈ wsX10, w ∈ wsX1_fill := (fun _ h => List.mem_cons_of_mem _ (List.mem_append_right _ h))
  generalize hH : s.heap = H at hP
  have hS : va_S A s.heap H [] := by rw [← hH]; exact va_S.rf
  generalize hlo : ([] : List Loc) = locs at hS
  refine lv_aload_n hx hb dX1_fill_0 rfl (lv_at hl 1 rfl) ?_
  refine lv_iconst (v := 1) hx hb dX1_fill_1 (by decide) ?_
  refine s_put hx hb hts hi0 hown hK hE hP hD hS hk 1 (by decide) rfl (v := .int (bI true)) (ty := .boolean) (uB σ 1 k true) ((sF_self σ k).2.2.2.2.2.2.1 _) (fun i9 hi9 => (sF_other σ hi9).2.2.2.2.2.2.1 _) (cF_uB _ _ _ _ _) rfl (by decide +kernel) (bI_nar _) (bI_fit _) dX1_fill_2 (fun _ h => h) (fun H locs hP hD hS => ?_)
  refine lv_aload_n hx hb dX1_fill_5 rfl (lv_at hl 1 rfl) ?_
  refine lv_iconst (v := 0) hx hb dX1_fill_6 (by decide) ?_
  refine s_put hx hb hts hi0 hown hK hE hP hD hS hk 2 (by decide) rfl (v := .int (bI false)) (ty := .boolean) (uB (uB σ 1 k true) 2 k false) ((sF_self (uB σ 1 k true) k).2.2.2.2.2.2.2 _) (fun i9 hi9 => (sF_other (uB σ 1 k true) hi9).2.2.2.2.2.2.2 _) (cF_uB _ _ _ _ _) rfl (by decide +kernel) (bI_nar _) (bI_fit _) dX1_fill_7 (fun _ h => h) (fun H locs hP hD hS => ?_)
  refine lv_aload_n hx hb dX1_fill_10 rfl (lv_at hl 1 rfl) ?_
  refine lv_iload_n hx hb dX1_fill_11 rfl (lv_at hl 2 rfl) ?_
  refine s_put hx hb hts hi0 hown hK hE hP hD hS hk 3 (by decide) rfl (v := .int sz9) (ty := .int) (uS (uB (uB σ 1 k true) 2 k false) 3 k sz9) ((sF_self (uB (uB σ 1 k true) 2 k false) k).1 _) (fun i9 hi9 => (sF_other (uB (uB σ 1 k true) 2 k false) hi9).1 _) (cF_uS _ _ _ _ _) rfl (by decide +kernel) rfl rfl dX1_fill_12 (fun _ h => h) (fun H locs hP hD hS => ?_)
  refine lv_aload_n hx hb dX1_fill_15 rfl (lv_at hl 1 rfl) ?_
  refine lv_iconst (v := 1) hx hb dX1_fill_16 (by decide) ?_
  refine s_put hx hb hts hi0 hown hK hE hP hD hS hk 4 (by decide) rfl (v := .int 1) (ty := .int) (uS (uS (uB (uB σ 1 k true) 2 k false) 3 k sz9) 4 k 1) ((sF_self (uS (uB (uB σ 1 k true) 2 k false) 3 k sz9) k).2.1 _) (fun i9 hi9 => (sF_other (uS (uB (uB σ 1 k true) 2 k false) 3 k sz9) hi9).2.1 _) (cF_uS _ _ _ _ _) rfl (by decide +kernel) rfl rfl dX1_fill_17 (fun _ h => h) (fun H locs hP hD hS => ?_)
  refine lv_aload_n hx hb dX1_fill_20 rfl (lv_at hl 1 rfl) ?_
  refine lv_aload_n hx hb dX1_fill_21 rfl (lv_at hl 0 rfl) ?_
  refine c_get hx hb hts hi1 hown hK hP 1 (by decide) (List.mem_of_getElem? (i := 1) rfl) (v := .int (gI σ 1)) rfl dX1_fill_22 (fun _ h => h) ?_
  refine lv_iload hx hb dX1_fill_25 (lv_at hl 4 rfl) ?_
  refine lv_iadd hx hb dX1_fill_27 ?_
  refine s_put hx hb hts hi0 hown hK hE hP hD hS hk 5 (by decide) rfl (v := .int ((gI σ 1) + lf)) (ty := .int) (uS (uS (uS (uB (uB σ 1 k true) 2 k false) 3 k sz9) 4 k 1) 5 k ((gI σ 1) + lf)) ((sF_self (uS (uS (uB (uB σ 1 k true) 2 k false) 3 k sz9) 4 k 1) k).2.2.1 _) (fun i9 hi9 => (sF_other (uS (uS (uB (uB σ 1 k true) 2 k false) 3 k sz9) 4 k 1) hi9).2.2.1 _) (cF_uS _ _ _ _ _) rfl (by decide +kernel) rfl rfl dX1_fill_28 (fun _ h => h) (fun H locs hP hD hS => ?_)
  refine lv_aload_n hx hb dX1_fill_31 rfl (lv_at hl 0 rfl) ?_
  refine lv_aload_n hx hb dX1_fill_32 rfl (lv_at hl 1 rfl) ?_
  refine lv_iload_n hx hb dX1_fill_33 rfl (lv_at hl 3 rfl) ?_
  refine x_callv (va_runV (As := [.ref (ad k), .int pr]) (rest := []) ⟨hx, hb, hml, hown, hts⟩ (k_X1_setWorth l D ax ar ad cO H.size (uS (uS (uS (uB (uB σ 1 k true) 2 k false) 3 k sz9) 4 k 1) 5 k ((gI σ 1) + lf)) pr hk) (cwV 2 hts gX1_fill_X1_setWorth rfl rfl rfl (by decide +kernel) ⟨Nat.le_of_ble_eq_true rfl, Nat.le_of_ble_eq_true rfl⟩) (xPreV xE_ok hE hK hA hP hD hS (q0 := 0) (ci := 1) rfl rfl rfl) rfl rfl hl.1 rfl (lv_room (Nat.le_of_ble_eq_true rfl)) dX1_fill_34 ⟨Nat.le_of_ble_eq_true rfl, Nat.le_of_ble_eq_true rfl⟩) hD hS hA (fun u H locs hp hP hD hS => ?_)
  rw [hp] at hP hD
  exact x_vret hx hb hr hlocks hK (cSetW (uS (uS (uS (uB (uB σ 1 k true) 2 k false) 3 k sz9) 4 k 1) 5 k ((gI σ 1) + lf)) k pr) hP hD hS rfl dX1_fill_37
set_option maxHeartbeats 4000000 in
set_option maxRecDepth 100000 in
theorem k_X1_hasRoom (l : Launch) (D : va_G) (ax ar : Nat) (ad : Nat → Nat) (cO : ClassId) (sz : Nat) (σ : St) (sz9 : Int32) : Met l yX1_hasRoom wsX1_hasRoom ({ frames := 2, cells := 0, slots := 0, locals := 60 } : Room) (va_Pc [.ref ax, .int sz9] (xPre D (cT cO) xE (cW ax ar ad cO) σ sz)) (va_Qi (fun (r : Int32) (u : St) => r = bI (cHasRoom σ sz9) ∧ u = σ) (xB D (cT cO) (cW ax ar ad cO) (va_A (cW ax ar ad cO σ) sz)) (va_A (cW ax ar ad cO σ) sz)) 0 0 (va_A (cW ax ar ad cO σ) sz) := by
  refine xOpen (w := (cW ax ar ad cO)) (σ := σ) (cc := cX1_hasRoom) (maxL := 2) (ret := some .boolean) (QQ := fun A => va_Qi (fun (r : Int32) (u : St) => r = bI (cHasRoom σ sz9) ∧ u = σ) (xB D (cT cO) (cW ax ar ad cO) A) A) (by decide) rfl (Nat.le_of_ble_eq_true rfl) ?_
  intro p e s m below meth c A hx hb hr hml hown hts hlocks hname hK hE hA hP hD hS ls hl
  have hl : lv_has ls 2 [(0, .ref ax), (1, .int sz9)] := hl
  have hown : s.vm.findClass RX1 = some m.cls := hown
  have hi0 : ∀ w ∈ wsX00, w ∈ wsX1_hasRoom := (fun _ h => List.mem_cons_of_mem _ (List.mem_append_right _ h))
  have hi1 : ∀ w ∈ wsX10, w ∈ wsX1_hasRoom := (fun _ h => List.mem_cons_of_mem _ (List.mem_append_left _ (List.mem_append_right _ h)))
  generalize hH : s.heap = H at hP
  have hS : va_S A s.heap H [] := by rw [← hH]; exact va_S.rf
  generalize hlo : ([] : List Loc) = locs at hS
  refine lv_aload_n hx hb dX1_hasRoom_0 rfl (lv_at hl 0 rfl) ?_
  refine x_calli (va_runV (As := []) (rest := []) ⟨hx, hb, hml, hown, hts⟩ (k_X1_used l D ax ar ad cO H.size σ) (cwV 0 hts gX1_hasRoom_X1_used rfl rfl rfl (by decide +kernel) ⟨Nat.le_of_ble_eq_true rfl, Nat.le_of_ble_eq_true rfl⟩) (xPreV xE_ok hE hK hA hP hD hS (q0 := 0) (ci := 1) rfl rfl rfl) rfl rfl hl.1 rfl (lv_room (Nat.le_of_ble_eq_true rfl)) dX1_hasRoom_1 ⟨Nat.le_of_ble_eq_true rfl, Nat.le_of_ble_eq_true rfl⟩) hD hS hA (fun r u H locs hp hP hD hS => ?_)
  obtain ⟨rfl, hu9⟩ := hp
  rw [hu9] at hP hD
  refine lv_aload_n hx hb dX1_hasRoom_4 rfl (lv_at hl 0 rfl) ?_
  refine c_get hx hb hts hi1 hown hK hP 3 (by decide) (List.mem_of_getElem? (i := 1) rfl) (v := .int (gI σ 3)) rfl dX1_hasRoom_5 (fun _ h => h) ?_
  refine lv_iload_n hx hb dX1_hasRoom_8 rfl (lv_at hl 1 rfl) ?_
  refine lv_isub hx hb dX1_hasRoom_9 ?_
  refine lv_icmp_gt (tgt := 17) hx hb dX1_hasRoom_10 (by decide) (fun c_1 => ?_) (fun c_1 => ?_)
  · refine lv_iconst (v := 0) hx hb dX1_hasRoom_17 (by decide) ?_
    exact x_zret (b := false) hx hb hr hlocks hK (σ) hP hD hS ⟨by simp only [cHasRoom]; simp [c_1], rfl⟩ dX1_hasRoom_18
  · refine lv_iconst (v := 1) hx hb dX1_hasRoom_13 (by decide) ?_
    refine lv_goto (tgt := 18) hx hb dX1_hasRoom_14 (by decide) ?_
    exact x_zret (b := true) hx hb hr hlocks hK (σ) hP hD hS ⟨by simp only [cHasRoom]; simp [c_1], rfl⟩ dX1_hasRoom_18
