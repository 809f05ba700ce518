set_option maxHeartbeats 4000000 in
set_option maxRecDepth 100000 in
theorem k_X1_firstInOrder (l : Launch) (D : va_G) (ax ar : Nat) (ad : Nat → Nat) (cO : ClassId) (sz : Nat) (σ : St) : Met l yX1_firstInOrder wsX1_firstInOrder ({ frames := 2, cells := 0, slots := 0, locals := 60 } : Room) (va_Pc [.ref ax] (xPre D (cT cO) xE (cW ax ar ad cO) σ sz)) (va_Qq (fun (r : Option Nat) (u : St) => r = (nxt σ none).map ad ∧ u = σ) (xB D (cT cO) (cW ax ar ad cO) (va_A (cW ax ar ad cO σ) sz)) (va_A (cW ax ar ad cO σ) sz)) 0 0 (va_A (cW ax ar ad cO σ) sz) := by
  refine xOpen (w := (cW ax ar ad cO)) (σ := σ) (cc := cX1_firstInOrder) (maxL := 1) (ret := some (.object "WorthCache$Slot")) (QQ := fun A => va_Qq (fun (r : Option Nat) (u : St) => r = (nxt σ none).map ad ∧ u = σ) (xB D (cT cO) (cW ax ar ad cO) A) A) (by decide) rfl (Nat.le_of_ble_eq_true rfl) ?_
  intro p e s m below meth c A hx hb hr hml hown hts hlocks hname hK hE hA hP hD hS ls hl
  have hl : lv_has ls 1 [(0, .ref ax)] := hl
  have hown : s.vm.findClass RX1 = some m.cls := hown
  have hi0 : ∀ w ∈ wsX00, w ∈ wsX1_firstInOrder := (fun _ h => List.mem_cons_of_mem _ (List.mem_append_right _ h))
  have hi1 : ∀ w ∈ wsX10, w ∈ wsX1_firstInOrder := (fun _ h => List.mem_cons_of_mem _ (List.mem_append_left _ (List.mem_append_right _ h)))
  generalize hH : s.heap = H at hP
  have hS : va_S A s.heap H [] := by rw [← hH]; exact va_S.rf
  generalize hlo : ([] : List Loc) = locs at hS
  refine lv_aload_n hx hb dX1_firstInOrder_0 rfl (lv_at hl 0 rfl) ?_
  refine lv_null hx hb dX1_firstInOrder_1 ?_
  refine x_callq (va_runV (As := [.null]) (rest := []) ⟨hx, hb, hml, hown, hts⟩ (k_X1_nextInOrder l D ax ar ad cO H.size σ none (fun _ h => nomatch h)) (cwV 1 hts gX1_firstInOrder_X1_nextInOrder rfl rfl rfl (by decide +kernel) ⟨Nat.le_of_ble_eq_true rfl, Nat.le_of_ble_eq_true rfl⟩) (xPreV xE_ok hE hK hA hP hD hS (q0 := 0) (ci := 1) rfl rfl rfl) rfl rfl hl.1 rfl (lv_room (Nat.le_of_ble_eq_true rfl)) dX1_firstInOrder_2 ⟨Nat.le_of_ble_eq_true rfl, Nat.le_of_ble_eq_true rfl⟩) hD hS hA (fun r u H locs hp hP hD hS => ?_)
  obtain ⟨rfl, hu9⟩ := hp
  rw [hu9] at hP hD
  exact x_qret (r := (nxt σ none).map ad) hx hb hr hlocks hK (σ) hP hD hS ⟨rfl, rfl⟩ dX1_firstInOrder_5
set_option maxHeartbeats 4000000 in
set_option maxRecDepth 100000 in
theorem k_X1_setWorth (l : Launch) (D : va_G) (ax ar : Nat) (ad : Nat → Nat) (cO : ClassId) (sz : Nat) (σ : St) {k : Nat} (pr : Int32) (hk : k < 32) : Met l yX1_setWorth wsX1_setWorth ({ frames := 0, cells := 0, slots := 0, locals := 0 } : Room) (va_Pc [.ref ax, .ref (ad k), .int pr] (xPre D (cT cO) xE (cW ax ar ad cO) σ sz)) (va_Qv (fun (u : St) => u = cSetW σ k pr) (xB D (cT cO) (cW ax ar ad cO) (va_A (cW ax ar ad cO σ) sz)) (va_A (cW ax ar ad cO σ) sz)) 0 0 (va_A (cW ax ar ad cO σ) sz) := by
  refine xOpen (w := (cW ax ar ad cO)) (σ := σ) (cc := cX1_setWorth) (maxL := 3) (ret := none) (QQ := fun A => va_Qv (fun (u : St) => u = cSetW σ k pr) (xB D (cT cO) (cW ax ar ad cO) A) A) (by decide) rfl (Nat.le_of_ble_eq_true rfl) ?_
  intro p e s m below meth c A hx hb hr hml hown hts hlocks hname hK hE hA hP hD hS ls hl
  have hl : lv_has ls 3 [(0, .ref ax), (1, .ref (ad k)), (2, .int pr)] := hl
  have hown : s.vm.findClass RX1 = some m.cls := hown
  have hi0 : ∀ w ∈ wsX00, w ∈ wsX1_setWorth := (fun _ h => List.mem_cons_of_mem _ (List.mem_append_right _ h))
  have hi1 : ∀ w ∈ wsX10, w ∈ wsX1_setWorth := (fun _ h => List.mem_cons_of_mem _ (List.mem_append_left _ (List.mem_append_right _ h)))
  generalize hH : s.heap = H at hP
  have hS : va_S A s.heap H [] := by rw [← hH]; exact va_S.rf
  generalize hlo : ([] : List Loc) = locs at hS
  refine lv_aload_n hx hb dX1_setWorth_0 rfl (lv_at hl 0 rfl) ?_
  refine lv_dup hx hb dX1_setWorth_1 rfl ?_
  refine c_get hx hb hts hi1 hown hK hP 5 (by decide) (List.mem_of_getElem? (i := 1) rfl) (v := .long (gL σ 5)) rfl dX1_setWorth_2 (fun _ h => h) ?_
  refine lv_lconst (v := 1) hx hb dX1_setWorth_5 (by decide) ?_
  refine lv_ladd hx hb dX1_setWorth_6 ?_
  refine c_put hx hb hts hi1 hown hK hP hD hS 5 (by decide) (List.mem_of_getElem? (i := 1) rfl) (v := .long ((gL σ 5) + 1)) (ty := .long) (uL σ 5 ((gL σ 5) + 1)) (cF_uL ar σ ((gL σ 5) + 1)).2.1 (fun _ => sF_uL _ _ _ _) (by decide) rfl (by decide +kernel) rfl rfl dX1_setWorth_7 (fun _ h => h) (fun H locs hP hD hS => ?_)
  refine lv_aload_n hx hb dX1_setWorth_10 rfl (lv_at hl 1 rfl) ?_
  refine lv_aload_n hx hb dX1_setWorth_11 rfl (lv_at hl 0 rfl) ?_
  refine c_get hx hb hts hi1 hown hK hP 5 (by decide) (List.mem_of_getElem? (i := 1) rfl) (v := .long ((gL σ 5) + 1)) rfl dX1_setWorth_12 (fun _ h => h) ?_
  refine s_put hx hb hts hi0 hown hK hE hP hD hS hk 7 (by decide) rfl (v := .long ((gL σ 5) + 1)) (ty := .long) (uT (uL σ 5 ((gL σ 5) + 1)) 7 k ((gL σ 5) + 1)) ((sF_self (uL σ 5 ((gL σ 5) + 1)) k).2.2.2.2.2.1 _) (fun i9 hi9 => (sF_other (uL σ 5 ((gL σ 5) + 1)) hi9).2.2.2.2.2.1 _) (cF_uT _ _ _ _ _) rfl (by decide +kernel) rfl rfl dX1_setWorth_15 (fun _ h => h) (fun H locs hP hD hS => ?_)
  refine lv_aload_n hx hb dX1_setWorth_18 rfl (lv_at hl 1 rfl) ?_
  refine lv_aload_n hx hb dX1_setWorth_19 rfl (lv_at hl 1 rfl) ?_
  refine s_get hx hb hts hi0 hown hK hE hP hk 3 (by decide) rfl (v := .int (gS σ 3 k)) rfl dX1_setWorth_20 (fun _ h => h) ?_
  refine lv_iconst (v := 1) hx hb dX1_setWorth_23 (by decide) ?_
  refine x_icmp_ge (tgt := 34) hx hb dX1_setWorth_24 (by decide) (fun c_1 => ?_) (fun c_1 => ?_)
  · have hz9 : ¬ (gS σ 3 k).toInt64 = 0 := fun q => c_1 (by rw [toI64_0 q]; decide)
    refine lv_aload_n hx hb dX1_setWorth_34 rfl (lv_at hl 0 rfl) ?_
    refine c_get hx hb hts hi1 hown hK hP 2 (by decide) (List.mem_of_getElem? (i := 2) rfl) (v := .long (gL σ 2)) rfl dX1_setWorth_35 (fun _ h => h) ?_
    refine lv_ldc2 (v := 1000) hx hb hown (hts _ (List.mem_of_getElem? (i := 3) rfl)) dX1_setWorth_38 ?_
    refine lv_aload_n hx hb dX1_setWorth_41 rfl (lv_at hl 1 rfl) ?_
    refine s_get hx hb hts hi0 hown hK hE hP hk 4 (by decide) rfl (v := .int (gS σ 4 k)) rfl dX1_setWorth_42 (fun _ h => h) ?_
    refine lv_i2l (v := (gS σ 4 k).toInt64) hx hb dX1_setWorth_45 rfl ?_
    refine lv_lmul hx hb dX1_setWorth_46 ?_
    refine lv_iload_n hx hb dX1_setWorth_47 rfl (lv_at hl 2 rfl) ?_
    refine lv_i2l (v := pr.toInt64) hx hb dX1_setWorth_48 rfl ?_
    refine lv_lmul hx hb dX1_setWorth_49 ?_
    refine lv_aload_n hx hb dX1_setWorth_50 rfl (lv_at hl 1 rfl) ?_
    refine s_get hx hb hts hi0 hown hK hE hP hk 3 (by decide) rfl (v := .int (gS σ 3 k)) rfl dX1_setWorth_51 (fun _ h => h) ?_
    refine lv_i2l (v := (gS σ 3 k).toInt64) hx hb dX1_setWorth_54 rfl ?_
    refine lv_ldiv hx hb dX1_setWorth_55 (hz9) ?_
    refine lv_ladd hx hb dX1_setWorth_56 ?_
    refine s_put hx hb hts hi0 hown hK hE hP hD hS hk 6 (by decide) rfl (v := .long ((gL σ 2) + (((1000 * ((gS σ 4 k).toInt64)) * pr.toInt64) / ((gS σ 3 k).toInt64)))) (ty := .long) (uT (uT (uL σ 5 ((gL σ 5) + 1)) 7 k ((gL σ 5) + 1)) 6 k ((gL σ 2) + (((1000 * ((gS σ 4 k).toInt64)) * pr.toInt64) / ((gS σ 3 k).toInt64)))) ((sF_self (uT (uL σ 5 ((gL σ 5) + 1)) 7 k ((gL σ 5) + 1)) k).2.2.2.2.1 _) (fun i9 hi9 => (sF_other (uT (uL σ 5 ((gL σ 5) + 1)) 7 k ((gL σ 5) + 1)) hi9).2.2.2.2.1 _) (cF_uT _ _ _ _ _) rfl (by decide +kernel) rfl rfl dX1_setWorth_57 (fun _ h => h) (fun H locs hP hD hS => ?_)
    exact x_vret hx hb hr hlocks hK (uT (uT (uL σ 5 ((gL σ 5) + 1)) 7 k ((gL σ 5) + 1)) 6 k ((gL σ 2) + (((1000 * ((gS σ 4 k).toInt64)) * pr.toInt64) / ((gS σ 3 k).toInt64)))) hP hD hS (by unfold cSetW; simp [c_1]) dX1_setWorth_60
  · refine lv_aload_n hx hb dX1_setWorth_27 rfl (lv_at hl 0 rfl) ?_
    refine c_get hx hb hts hi1 hown hK hP 2 (by decide) (List.mem_of_getElem? (i := 2) rfl) (v := .long (gL σ 2)) rfl dX1_setWorth_28 (fun _ h => h) ?_
    refine lv_goto (tgt := 57) hx hb dX1_setWorth_31 (by decide) ?_
    refine s_put hx hb hts hi0 hown hK hE hP hD hS hk 6 (by decide) rfl (v := .long (gL σ 2)) (ty := .long) (uT (uT (uL σ 5 ((gL σ 5) + 1)) 7 k ((gL σ 5) + 1)) 6 k (gL σ 2)) ((sF_self (uT (uL σ 5 ((gL σ 5) + 1)) 7 k ((gL σ 5) + 1)) k).2.2.2.2.1 _) (fun i9 hi9 => (sF_other (uT (uL σ 5 ((gL σ 5) + 1)) 7 k ((gL σ 5) + 1)) hi9).2.2.2.2.1 _) (cF_uT _ _ _ _ _) rfl (by decide +kernel) rfl rfl dX1_setWorth_57 (fun _ h => h) (fun H locs hP hD hS => ?_)
    exact x_vret hx hb hr hlocks hK (uT (uT (uL σ 5 ((gL σ 5) + 1)) 7 k ((gL σ 5) + 1)) 6 k (gL σ 2)) hP hD hS (by unfold cSetW; simp [c_1]) dX1_setWorth_60
set_option maxHeartbeats 4000000 in
set_option maxRecDepth 100000 in
theorem k_X1_hit (l : Launch) (D : va_G) (ax ar : Nat) (ad : Nat → Nat) (cO : ClassId) (sz : Nat) (σ : St) {k : Nat} (pr : Int32) (hk : k < 32) : Met l yX1_hit wsX1_hit ({ frames := 1, cells := 0, slots := 0, locals := 40 } : Room) (va_Pc [.ref ax, .ref (ad k), .int pr] (xPre D (cT cO) xE (cW ax ar ad cO) σ sz)) (va_Qv (fun (u : St) => u = cHit σ k pr) (xB D (cT cO) (cW ax ar ad cO) (va_A (cW ax ar ad cO σ) sz)) (va_A (cW ax ar ad cO σ) sz)) 0 0 (va_A (cW ax ar ad cO σ) sz) := by
  refine xOpen (w := (cW ax ar ad cO)) (σ := σ) (cc := cX1_hit) (maxL := 3) (ret := none) (QQ := fun A => va_Qv (fun (u : St) => u = cHit σ k pr) (xB D (cT cO) (cW ax ar ad cO) A) A) (by decide) rfl (Nat.le_of_ble_eq_true rfl) ?_
  intro p e s m below meth c A hx hb hr hml hown hts hlocks hname hK hE hA hP hD hS ls hl
  have hl : lv_has ls 3 [(0, .ref ax), (1, .ref (ad k)), (2, .int pr)] := hl
  have hown : s.vm.findClass RX1 = some m.cls := hown
  have hi0 : ∀ w ∈ wsX00, w ∈ wsX1_hit := (fun _ h => List.mem_cons_of_mem _ (List.mem_append_left _ (List.mem_append_right _ h)))
  have hi1 : ∀ w ∈ wsX10, w ∈ wsX1_hit := (fun _ h => List.mem_cons_of_mem _ (List.mem_append_right _ h))
  generalize hH : s.heap = H at hP
  have hS : va_S A s.heap H [] := by rw [← hH]; exact va_S.rf
  generalize hlo : ([] : List Loc) = locs at hS
  refine lv_aload_n hx hb dX1_hit_0 rfl (lv_at hl 1 rfl) ?_
  refine lv_dup hx hb dX1_hit_1 rfl ?_
  refine s_get hx hb hts hi0 hown hK hE hP hk 4 (by decide) rfl (v := .int (gS σ 4 k)) rfl dX1_hit_2 (fun _ h => h) ?_
  refine lv_iconst (v := 1) hx hb dX1_hit_5 (by decide) ?_
  refine lv_iadd hx hb dX1_hit_6 ?_
  refine s_put hx hb hts hi0 hown hK hE hP hD hS hk 4 (by decide) rfl (v := .int ((gS σ 4 k) + 1)) (ty := .int) (uS σ 4 k ((gS σ 4 k) + 1)) ((sF_self σ k).2.1 _) (fun i9 hi9 => (sF_other σ hi9).2.1 _) (cF_uS _ _ _ _ _) rfl (by decide +kernel) rfl rfl dX1_hit_7 (fun _ h => h) (fun H locs hP hD hS => ?_)
  refine lv_aload_n hx hb dX1_hit_10 rfl (lv_at hl 0 rfl) ?_
  refine lv_aload_n hx hb dX1_hit_11 rfl (lv_at hl 1 rfl) ?_
  refine lv_iload_n hx hb dX1_hit_12 rfl (lv_at hl 2 rfl) ?_
  refine x_callv (va_runV (As := [.ref (ad k), .int pr]) (rest := []) ⟨hx, hb, hml, hown, hts⟩ (k_X1_setWorth l D ax ar ad cO H.size (uS σ 4 k ((gS σ 4 k) + 1)) pr hk) (cwV 2 hts gX1_hit_X1_setWorth rfl rfl rfl (by decide +kernel) ⟨Nat.le_of_ble_eq_true rfl, Nat.le_of_ble_eq_true rfl⟩) (xPreV xE_ok hE hK hA hP hD hS (q0 := 0) (ci := 1) rfl rfl rfl) rfl rfl hl.1 rfl (lv_room (Nat.le_of_ble_eq_true rfl)) dX1_hit_13 ⟨Nat.le_of_ble_eq_true rfl, Nat.le_of_ble_eq_true rfl⟩) hD hS hA (fun u H locs hp hP hD hS => ?_)
  rw [hp] at hP hD
  refine lv_aload_n hx hb dX1_hit_16 rfl (lv_at hl 0 rfl) ?_
  refine lv_dup hx hb dX1_hit_17 rfl ?_
  refine c_get hx hb hts hi1 hown hK hP 6 (by decide) (List.mem_of_getElem? (i := 1) rfl) (v := .int (gI (cSetW (uS σ 4 k ((gS σ 4 k) + 1)) k pr) 6)) rfl dX1_hit_18 (fun _ h => h) ?_
  refine lv_iconst (v := 1) hx hb dX1_hit_21 (by decide) ?_
  refine lv_iadd hx hb dX1_hit_22 ?_
  refine c_put hx hb hts hi1 hown hK hP hD hS 6 (by decide) (List.mem_of_getElem? (i := 1) rfl) (v := .int ((gI (cSetW (uS σ 4 k ((gS σ 4 k) + 1)) k pr) 6) + 1)) (ty := .int) (uI (cSetW (uS σ 4 k ((gS σ 4 k) + 1)) k pr) 6 ((gI (cSetW (uS σ 4 k ((gS σ 4 k) + 1)) k pr) 6) + 1)) (cF_uI ar (cSetW (uS σ 4 k ((gS σ 4 k) + 1)) k pr) ((gI (cSetW (uS σ 4 k ((gS σ 4 k) + 1)) k pr) 6) + 1)).2.2.2.1 (fun _ => sF_uI _ _ _ _) (by decide) rfl (by decide +kernel) rfl rfl dX1_hit_23 (fun _ h => h) (fun H locs hP hD hS => ?_)
  refine lv_aload_n hx hb dX1_hit_26 rfl (lv_at hl 0 rfl) ?_
  refine lv_dup hx hb dX1_hit_27 rfl ?_
  refine c_get hx hb hts hi1 hown hK hP 8 (by decide) (List.mem_of_getElem? (i := 2) rfl) (v := .long (gL (cSetW (uS σ 4 k ((gS σ 4 k) + 1)) k pr) 8)) rfl dX1_hit_28 (fun _ h => h) ?_
  refine lv_aload_n hx hb dX1_hit_31 rfl (lv_at hl 1 rfl) ?_
  refine s_get hx hb hts hi0 hown hK hE hP hk 3 (by decide) rfl (v := .int (gS (cSetW (uS σ 4 k ((gS σ 4 k) + 1)) k pr) 3 k)) rfl dX1_hit_32 (fun _ h => h) ?_
  refine lv_i2l (v := (gS (cSetW (uS σ 4 k ((gS σ 4 k) + 1)) k pr) 3 k).toInt64) hx hb dX1_hit_35 rfl ?_
  refine lv_ladd hx hb dX1_hit_36 ?_
  refine c_put hx hb hts hi1 hown hK hP hD hS 8 (by decide) (List.mem_of_getElem? (i := 2) rfl) (v := .long ((gL (cSetW (uS σ 4 k ((gS σ 4 k) + 1)) k pr) 8) + ((gS (cSetW (uS σ 4 k ((gS σ 4 k) + 1)) k pr) 3 k).toInt64))) (ty := .long) (uL (uI (cSetW (uS σ 4 k ((gS σ 4 k) + 1)) k pr) 6 ((gI (cSetW (uS σ 4 k ((gS σ 4 k) + 1)) k pr) 6) + 1)) 8 ((gL (cSetW (uS σ 4 k ((gS σ 4 k) + 1)) k pr) 8) + ((gS (cSetW (uS σ 4 k ((gS σ 4 k) + 1)) k pr) 3 k).toInt64))) (cF_uL ar (uI (cSetW (uS σ 4 k ((gS σ 4 k) + 1)) k pr) 6 ((gI (cSetW (uS σ 4 k ((gS σ 4 k) + 1)) k pr) 6) + 1)) ((gL (cSetW (uS σ 4 k ((gS σ 4 k) + 1)) k pr) 8) + ((gS (cSetW (uS σ 4 k ((gS σ 4 k) + 1)) k pr) 3 k).toInt64))).2.2.1 (fun _ => sF_uL _ _ _ _) (by decide) rfl (by decide +kernel) rfl rfl dX1_hit_37 (fun _ h => h) (fun H locs hP hD hS => ?_)
  refine lv_aload_n hx hb dX1_hit_40 rfl (lv_at hl 0 rfl) ?_
  refine lv_dup hx hb dX1_hit_41 rfl ?_
  refine c_get hx hb hts hi1 hown hK hP 9 (by decide) (List.mem_of_getElem? (i := 3) rfl) (v := .long (gL (cSetW (uS σ 4 k ((gS σ 4 k) + 1)) k pr) 9)) rfl dX1_hit_42 (fun _ h => h) ?_
  refine lv_iload_n hx hb dX1_hit_45 rfl (lv_at hl 2 rfl) ?_
  refine lv_i2l (v := pr.toInt64) hx hb dX1_hit_46 rfl ?_
  refine lv_ladd hx hb dX1_hit_47 ?_
  refine c_put hx hb hts hi1 hown hK hP hD hS 9 (by decide) (List.mem_of_getElem? (i := 3) rfl) (v := .long ((gL (cSetW (uS σ 4 k ((gS σ 4 k) + 1)) k pr) 9) + pr.toInt64)) (ty := .long) (uL (uL (uI (cSetW (uS σ 4 k ((gS σ 4 k) + 1)) k pr) 6 ((gI (cSetW (uS σ 4 k ((gS σ 4 k) + 1)) k pr) 6) + 1)) 8 ((gL (cSetW (uS σ 4 k ((gS σ 4 k) + 1)) k pr) 8) + ((gS (cSetW (uS σ 4 k ((gS σ 4 k) + 1)) k pr) 3 k).toInt64))) 9 ((gL (cSetW (uS σ 4 k ((gS σ 4 k) + 1)) k pr) 9) + pr.toInt64)) (cF_uL ar (uL (uI (cSetW (uS σ 4 k ((gS σ 4 k) + 1)) k pr) 6 ((gI (cSetW (uS σ 4 k ((gS σ 4 k) + 1)) k pr) 6) + 1)) 8 ((gL (cSetW (uS σ 4 k ((gS σ 4 k) + 1)) k pr) 8) + ((gS (cSetW (uS σ 4 k ((gS σ 4 k) + 1)) k pr) 3 k).toInt64))) ((gL (cSetW (uS σ 4 k ((gS σ 4 k) + 1)) k pr) 9) + pr.toInt64)).2.2.2.1 (fun _ => sF_uL _ _ _ _) (by decide) rfl (by decide +kernel) rfl rfl dX1_hit_48 (fun _ h => h) (fun H locs hP hD hS => ?_)
  exact x_vret hx hb hr hlocks hK (uL (uL (uI (cSetW (uS σ 4 k ((gS σ 4 k) + 1)) k pr) 6 ((gI (cSetW (uS σ 4 k ((gS σ 4 k) + 1)) k pr) 6) + 1)) 8 ((gL (cSetW (uS σ 4 k ((gS σ 4 k) + 1)) k pr) 8) + ((gS (cSetW (uS σ 4 k ((gS σ 4 k) + 1)) k pr) 3 k).toInt64))) 9 ((gL (cSetW (uS σ 4 k ((gS σ 4 k) + 1)) k pr) 9) + pr.toInt64)) hP hD hS rfl dX1_hit_51
