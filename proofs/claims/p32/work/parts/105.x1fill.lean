set_option maxHeartbeats 4000000 in
set_option maxRecDepth 100000 in
theorem k_X1_fill (l : Launch) (D : va_G) (ax ar : Nat) (ad : Nat → Nat) (cO : ClassId) (sz : Nat) (σ : St) {k : Nat} (sz9 pr lf : Int32) (hk : k < 32) : Met l yX1_fill wsX1_fill ({ frames := 1, cells := 0, slots := 0, locals := 40 } : Room) (va_Pc [.ref ax, .ref (ad k), .int sz9, .int pr, .int lf] (xPre D (cT cO) xE (cW ax ar ad cO) σ sz)) (va_Qv (fun (u : St) => u = cFill σ k sz9 pr lf) (xB D (cT cO) (cW ax ar ad cO) (va_A (cW ax ar ad cO σ) sz)) (va_A (cW ax ar ad cO σ) sz)) 0 0 (va_A (cW ax ar ad cO σ) sz) := by
  refine xOpen (w := (cW ax ar ad cO)) (σ := σ) (cc := cX1_fill) (maxL := 5) (ret := none) (QQ := fun A => va_Qv (fun (u : St) => u = cFill σ k sz9 pr lf) (xB D (cT cO) (cW ax ar ad cO) A) A) (by decide) rfl (Nat.le_of_ble_eq_true rfl) ?_
  intro p e s m below meth c A hx hb hr hml hown hts hlocks hname hK hE hA hP hD hS ls hl
  have hl : lv_has ls 5 [(0, .ref ax), (1, .ref (ad k)), (2, .int sz9), (3, .int pr), (4, .int lf)] := hl
  have hown : s.vm.findClass RX1 = some m.cls := hown
  have hi0 : ∀ w ∈ wsX00, w ∈ wsX1_fill := (fun _ h => List.mem_cons_of_mem _ (List.mem_append_left _ (List.mem_append_right _ h)))
  have hi1 : ∀ w ∈ wsX10, w ∈ wsX1_fill := (fun _ h => List.mem_cons_of_mem _ (List.mem_append_right _ h))
  generalize hH : s.heap = H at hP
  have hS : va_S A s.heap H [] := by rw [← hH]; exact va_S.rf
  generalize hlo : ([] : List Loc) = locs at hS
  refine lv_aload_n hx hb dX1_fill_0 rfl (lv_at hl 1 rfl) ?_
  refine lv_iconst (v := 1) hx hb dX1_fill_1 (by decide) ?_
  refine s_put hx hb hts hi0 hown hK hE hP hD hS hk 1 (by decide) rfl (v := .int (bI true)) (ty := .boolean) (uB σ 1 k true) ((sF_self σ k).2.2.2.2.2.2.1 _) (fun i9 hi9 => (sF_other σ hi9).2.2.2.2.2.2.1 _) (cF_uB _ _ _ _ _) rfl (by decide +kernel) (bI_nar _) (bI_fit _) dX1_fill_2 (fun _ h => h) (fun H locs hP hD hS => ?_)
  refine lv_aload_n hx hb dX1_fill_5 rfl (lv_at hl 1 rfl) ?_
  refine lv_iconst (v := 0) hx hb dX1_fill_6 (by decide) ?_
  refine s_put hx hb hts hi0 hown hK hE hP hD hS hk 2 (by decide) rfl (v := .int (bI false)) (ty := .boolean) (uB (uB σ 1 k true) 2 k false) ((sF_self (uB σ 1 k true) k).2.2.2.2.2.2.2 _) (fun i9 hi9 => (sF_other (uB σ 1 k true) hi9).2.2.2.2.2.2.2 _) (cF_uB _ _ _ _ _) rfl (by decide +kernel) (bI_nar _) (bI_fit _) dX1_fill_7 (fun _ h => h) (fun H locs hP hD hS => ?_)
  refine lv_aload_n hx hb dX1_fill_10 rfl (lv_at hl 1 rfl) ?_
  refine lv_iload_n hx hb dX1_fill_11 rfl (lv_at hl 2 rfl) ?_
  refine s_put hx hb hts hi0 hown hK hE hP hD hS hk 3 (by decide) rfl (v := .int sz9) (ty := .int) (uS (uB (uB σ 1 k true) 2 k false) 3 k sz9) ((sF_self (uB (uB σ 1 k true) 2 k false) k).1 _) (fun i9 hi9 => (sF_other (uB (uB σ 1 k true) 2 k false) hi9).1 _) (cF_uS _ _ _ _ _) rfl (by decide +kernel) rfl rfl dX1_fill_12 (fun _ h => h) (fun H locs hP hD hS => ?_)
  refine lv_aload_n hx hb dX1_fill_15 rfl (lv_at hl 1 rfl) ?_
  refine lv_iconst (v := 1) hx hb dX1_fill_16 (by decide) ?_
  refine s_put hx hb hts hi0 hown hK hE hP hD hS hk 4 (by decide) rfl (v := .int 1) (ty := .int) (uS (uS (uB (uB σ 1 k true) 2 k false) 3 k sz9) 4 k 1) ((sF_self (uS (uB (uB σ 1 k true) 2 k false) 3 k sz9) k).2.1 _) (fun i9 hi9 => (sF_other (uS (uB (uB σ 1 k true) 2 k false) 3 k sz9) hi9).2.1 _) (cF_uS _ _ _ _ _) rfl (by decide +kernel) rfl rfl dX1_fill_17 (fun _ h => h) (fun H locs hP hD hS => ?_)
  refine lv_aload_n hx hb dX1_fill_20 rfl (lv_at hl 1 rfl) ?_
  refine lv_aload_n hx hb dX1_fill_21 rfl (lv_at hl 0 rfl) ?_
  refine c_get hx hb hts hi1 hown hK hP 1 (by decide) (List.mem_of_getElem? (i := 1) rfl) (v := .int (gI σ 1)) rfl dX1_fill_22 (fun _ h => h) ?_
  refine lv_iload hx hb dX1_fill_25 (lv_at hl 4 rfl) ?_
  refine lv_iadd hx hb dX1_fill_27 ?_
  refine s_put hx hb hts hi0 hown hK hE hP hD hS hk 5 (by decide) rfl (v := .int ((gI σ 1) + lf)) (ty := .int) (uS (uS (uS (uB (uB σ 1 k true) 2 k false) 3 k sz9) 4 k 1) 5 k ((gI σ 1) + lf)) ((sF_self (uS (uS (uB (uB σ 1 k true) 2 k false) 3 k sz9) 4 k 1) k).2.2.1 _) (fun i9 hi9 => (sF_other (uS (uS (uB (uB σ 1 k true) 2 k false) 3 k sz9) 4 k 1) hi9).2.2.1 _) (cF_uS _ _ _ _ _) rfl (by decide +kernel) rfl rfl dX1_fill_28 (fun _ h => h) (fun H locs hP hD hS => ?_)
  refine lv_aload_n hx hb dX1_fill_31 rfl (lv_at hl 0 rfl) ?_
  refine lv_aload_n hx hb dX1_fill_32 rfl (lv_at hl 1 rfl) ?_
  refine lv_iload_n hx hb dX1_fill_33 rfl (lv_at hl 3 rfl) ?_
  refine x_callv (va_runV (As := [.ref (ad k), .int pr]) (rest := []) ⟨hx, hb, hml, hown, hts⟩ (k_X1_setWorth l D ax ar ad cO H.size (uS (uS (uS (uB (uB σ 1 k true) 2 k false) 3 k sz9) 4 k 1) 5 k ((gI σ 1) + lf)) pr hk) (cwV 2 hts gX1_fill_X1_setWorth rfl rfl rfl (by decide +kernel) ⟨Nat.le_of_ble_eq_true rfl, Nat.le_of_ble_eq_true rfl⟩) (xPreV xE_ok hE hK hA hP hD hS (q0 := 0) (ci := 1) rfl rfl rfl) rfl rfl hl.1 rfl (lv_room (Nat.le_of_ble_eq_true rfl)) dX1_fill_34 ⟨Nat.le_of_ble_eq_true rfl, Nat.le_of_ble_eq_true rfl⟩) hD hS hA (fun u H locs hp hP hD hS => ?_)
  rw [hp] at hP hD
  exact x_vret hx hb hr hlocks hK (cSetW (uS (uS (uS (uB (uB σ 1 k true) 2 k false) 3 k sz9) 4 k 1) 5 k ((gI σ 1) + lf)) k pr) hP hD hS rfl dX1_fill_37
set_option maxHeartbeats 4000000 in
set_option maxRecDepth 100000 in
theorem k_X1_hasRoom (l : Launch) (D : va_G) (ax ar : Nat) (ad : Nat → Nat) (cO : ClassId) (sz : Nat) (σ : St) (sz9 : Int32) : Met l yX1_hasRoom wsX1_hasRoom ({ frames := 2, cells := 0, slots := 0, locals := 60 } : Room) (va_Pc [.ref ax, .int sz9] (xPre D (cT cO) xE (cW ax ar ad cO) σ sz)) (va_Qi (fun (r : Int32) (u : St) => r = bI (cHasRoom σ sz9) ∧ u = σ) (xB D (cT cO) (cW ax ar ad cO) (va_A (cW ax ar ad cO σ) sz)) (va_A (cW ax ar ad cO σ) sz)) 0 0 (va_A (cW ax ar ad cO σ) sz) := by
  refine xOpen (w := (cW ax ar ad cO)) (σ := σ) (cc := cX1_hasRoom) (maxL := 2) (ret := some .boolean) (QQ := fun A => va_Qi (fun (r : Int32) (u : St) => r = bI (cHasRoom σ sz9) ∧ u = σ) (xB D (cT cO) (cW ax ar ad cO) A) A) (by decide) rfl (Nat.le_of_ble_eq_true rfl) ?_
  intro p e s m below meth c A hx hb hr hml hown hts hlocks hname hK hE hA hP hD hS ls hl
  have hl : lv_has ls 2 [(0, .ref ax), (1, .int sz9)] := hl
  have hown : s.vm.findClass RX1 = some m.cls := hown
  have hi0 : ∀ w ∈ wsX00, w ∈ wsX1_hasRoom := (fun _ h => List.mem_cons_of_mem _ (List.mem_append_right _ h))
  have hi1 : ∀ w ∈ wsX10, w ∈ wsX1_hasRoom := (fun _ h => List.mem_cons_of_mem _ (List.mem_append_left _ (List.mem_append_right _ h)))
  generalize hH : s.heap = H at hP
  have hS : va_S A s.heap H [] := by rw [← hH]; exact va_S.rf
  generalize hlo : ([] : List Loc) = locs at hS
  refine lv_aload_n hx hb dX1_hasRoom_0 rfl (lv_at hl 0 rfl) ?_
  refine x_calli (va_runV (As := []) (rest := []) ⟨hx, hb, hml, hown, hts⟩ (k_X1_used l D ax ar ad cO H.size σ) (cwV 0 hts gX1_hasRoom_X1_used rfl rfl rfl (by decide +kernel) ⟨Nat.le_of_ble_eq_true rfl, Nat.le_of_ble_eq_true rfl⟩) (xPreV xE_ok hE hK hA hP hD hS (q0 := 0) (ci := 1) rfl rfl rfl) rfl rfl hl.1 rfl (lv_room (Nat.le_of_ble_eq_true rfl)) dX1_hasRoom_1 ⟨Nat.le_of_ble_eq_true rfl, Nat.le_of_ble_eq_true rfl⟩) hD hS hA (fun r u H locs hp hP hD hS => ?_)
  obtain ⟨rfl, hu9⟩ := hp
  rw [hu9] at hP hD
  refine lv_aload_n hx hb dX1_hasRoom_4 rfl (lv_at hl 0 rfl) ?_
  refine c_get hx hb hts hi1 hown hK hP 3 (by decide) (List.mem_of_getElem? (i := 1) rfl) (v := .int (gI σ 3)) rfl dX1_hasRoom_5 (fun _ h => h) ?_
  refine lv_iload_n hx hb dX1_hasRoom_8 rfl (lv_at hl 1 rfl) ?_
  refine lv_isub hx hb dX1_hasRoom_9 ?_
  refine lv_icmp_gt (tgt := 17) hx hb dX1_hasRoom_10 (by decide) (fun c_1 => ?_) (fun c_1 => ?_)
  · refine lv_iconst (v := 0) hx hb dX1_hasRoom_17 (by decide) ?_
    exact x_zret (b := false) hx hb hr hlocks hK (σ) hP hD hS ⟨by simp only [cHasRoom]; simp [c_1], rfl⟩ dX1_hasRoom_18
  · refine lv_iconst (v := 1) hx hb dX1_hasRoom_13 (by decide) ?_
    refine lv_goto (tgt := 18) hx hb dX1_hasRoom_14 (by decide) ?_
    exact x_zret (b := true) hx hb hr hlocks hK (σ) hP hD hS ⟨by simp only [cHasRoom]; simp [c_1], rfl⟩ dX1_hasRoom_18
set_option maxHeartbeats 4000000 in
set_option maxRecDepth 100000 in
theorem k_X1_leaveDownTo (l : Launch) (D : va_G) (ax ar : Nat) (ad : Nat → Nat) (cO : ClassId) (sz : Nat) (σ : St) (by9 : Int32) : Met l yX1_leaveDownTo wsX1_leaveDownTo ({ frames := 3, cells := 0, slots := 0, locals := 90 } : Room) (va_Pc [.ref ax, .int by9] (xPre D (cT cO) xE (cW ax ar ad cO) σ sz)) (va_Qi (fun (r : Int32) (u : St) => r = nI (lvE by9 σ) ∧ u = lvD by9 σ) (xB D (cT cO) (cW ax ar ad cO) (va_A (cW ax ar ad cO σ) sz)) (va_A (cW ax ar ad cO σ) sz)) 0 0 (va_A (cW ax ar ad cO σ) sz) := by
  refine xOpen (w := (cW ax ar ad cO)) (σ := σ) (cc := cX1_leaveDownTo) (maxL := 4) (ret := some .int) (QQ := fun A => va_Qi (fun (r : Int32) (u : St) => r = nI (lvE by9 σ) ∧ u = lvD by9 σ) (xB D (cT cO) (cW ax ar ad cO) A) A) (by decide) rfl (Nat.le_of_ble_eq_true rfl) ?_
  intro p e s m below meth c A hx hb hr hml hown hts hlocks hname hK hE hA hP hD hS ls hl
  have hl : lv_has ls 4 [(0, .ref ax), (1, .int by9)] := hl
  have hown : s.vm.findClass RX1 = some m.cls := hown
  have hi0 : ∀ w ∈ wsX00, w ∈ wsX1_leaveDownTo := (fun _ h => List.mem_cons_of_mem _ (List.mem_append_left _ (List.mem_append_right _ h)))
  have hi1 : ∀ w ∈ wsX10, w ∈ wsX1_leaveDownTo := (fun _ h => List.mem_cons_of_mem _ (List.mem_append_right _ h))
  generalize hH : s.heap = H at hP
  have hS : va_S A s.heap H [] := by rw [← hH]; exact va_S.rf
  generalize hlo : ([] : List Loc) = locs at hS
  refine lv_iconst (v := 0) hx hb dX1_leaveDownTo_0 (by decide) ?_
  refine lv_istore_n (lv' := [(2, .int 0), (0, .ref ax), (1, .int by9)]) hx hb dX1_leaveDownTo_1 rfl hl (by decide) rfl (fun ls hl => ?_)
  refine lv_aload_n hx hb dX1_leaveDownTo_2 rfl (lv_at hl 1 rfl) ?_
  refine x_callq (va_runV (As := []) (rest := []) ⟨hx, hb, hml, hown, hts⟩ (k_X1_firstInOrder l D ax ar ad cO H.size σ) (cwV 0 hts gX1_leaveDownTo_X1_firstInOrder rfl rfl rfl (by decide +kernel) ⟨Nat.le_of_ble_eq_true rfl, Nat.le_of_ble_eq_true rfl⟩) (xPreV xE_ok hE hK hA hP hD hS (q0 := 0) (ci := 1) rfl rfl rfl) rfl rfl hl.1 rfl (lv_room (Nat.le_of_ble_eq_true rfl)) dX1_leaveDownTo_3 ⟨Nat.le_of_ble_eq_true rfl, Nat.le_of_ble_eq_true rfl⟩) hD hS hA (fun r u H locs hp hP hD hS => ?_)
  obtain ⟨rfl, hu9⟩ := hp
  rw [hu9] at hP hD
  refine x_astore_nQ (lv' := [(3, va_rf ((nxt σ none).map ad)), (2, .int 0), (0, .ref ax), (1, .int by9)]) hx hb dX1_leaveDownTo_6 rfl hl (by decide) rfl (fun ls hl => ?_)
  obtain ⟨-, hN1, hN2, hN3⟩ := stopN_spec (lvOk by9 σ) 32 0
  have hN1 : lvE by9 σ ≤ 32 := by have h := hN1; unfold lvE; omega
  have hN2 : ∀ j, j < lvE by9 σ → lvOk by9 σ j = true := fun j h => hN2 j (Nat.zero_le _) h
  have hN3 : lvE by9 σ = 32 ∨ lvOk by9 σ (lvE by9 σ) = false := by rw [Nat.zero_add] at hN3; exact hN3
  have loop : ∀ (n j : Nat) (ls : Array Slot) (H : Heap) (locs : List Loc), j ≤ lvE by9 σ → lvE by9 σ - j < n → va_P D vwCl (cW ax ar ad cO (lvI σ j)) H → va_D A (cW ax ar ad cO (lvI σ j)) → va_S A s.heap H locs → lv_has ls 4 [(0, .ref ax), (1, .int by9), (2, .int (nI j)), (3, va_rf ((nxt (lvI σ j) none).map ad))] → W p l e (headSpec wsX1_leaveDownTo ({ frames := 3, cells := 0, slots := 0, locals := 90 } : Room)).room s m [.ref ax, .int by9].toArray below meth c H locs 0 0 (MQ below (va_Qi (fun (r : Int32) (u : St) => r = nI (lvE by9 σ) ∧ u = lvD by9 σ) (xB D (cT cO) (cW ax ar ad cO) A) A) [.ref ax, .int by9].toArray s 0 0 A) (F0 m 7 ls []) := by
    intro n
    induction n with
    | zero =>
      intro j ls H locs h1 h2
      exact absurd h2 (by omega)
    | succ n ih =>
      intro j ls H locs hj hn hP hD hS hl
      have hj32 : j ≤ 32 := Nat.le_trans hj hN1
      refine lv_iload_n hx hb dX1_leaveDownTo_7 rfl (lv_at hl 2 rfl) ?_
      refine lv_bipush (v := 32) hx hb dX1_leaveDownTo_8 (by decide) ?_
      refine x_icmp_ge (tgt := 56) hx hb dX1_leaveDownTo_10 (by decide) (fun c_1 => ?_) (fun c_1 => ?_)
      · have hjN : j = lvE by9 σ := by
          rcases Nat.lt_or_ge j (lvE by9 σ) with q | q
          · exact absurd ((nI_lt32 hj32).mpr (Nat.lt_of_lt_of_le q hN1)) c_1
          · omega
        refine lv_aload_n hx hb dX1_leaveDownTo_56 rfl (lv_at hl 0 rfl) ?_
        refine lv_dup hx hb dX1_leaveDownTo_57 rfl ?_
        refine c_get hx hb hts hi1 hown hK hP 11 (by decide) (List.mem_of_getElem? (i := 6) rfl) (v := .int (gI (lvI σ j) 11)) rfl dX1_leaveDownTo_58 (fun _ h => h) ?_
        refine lv_iload_n hx hb dX1_leaveDownTo_61 rfl (lv_at hl 2 rfl) ?_
        refine lv_iadd hx hb dX1_leaveDownTo_62 ?_
        refine c_put hx hb hts hi1 hown hK hP hD hS 11 (by decide) (List.mem_of_getElem? (i := 6) rfl) (v := .int ((gI (lvI σ j) 11) + (nI j))) (ty := .int) (uI (lvI σ j) 11 ((gI (lvI σ j) 11) + (nI j))) (cF_uI ar (lvI σ j) ((gI (lvI σ j) 11) + (nI j))).2.2.2.2.2.1 (fun _ => sF_uI _ _ _ _) (by decide) rfl (by decide +kernel) rfl rfl dX1_leaveDownTo_63 (fun _ h => h) (fun H locs hP hD hS => ?_)
        refine lv_iload_n hx hb dX1_leaveDownTo_66 rfl (lv_at hl 2 rfl) ?_
        exact x_iret hx hb hr hlocks hK (uI (lvI σ j) 11 ((gI (lvI σ j) 11) + (nI j))) hP hD hS ⟨by rw [hjN], by rw [lvD, ← hjN]⟩ dX1_leaveDownTo_67
      · refine x_aload_nQ hx hb dX1_leaveDownTo_13 rfl (lv_at hl 3 rfl) ?_
        refine x_ifnullQ (tgt := 56) hx hb dX1_leaveDownTo_14 (by decide) (fun c_2 => ?_) (fun k_3 c_2 => ?_)
        · have hjN : j = lvE by9 σ := by
            rcases Nat.lt_or_ge j (lvE by9 σ) with q | q
            · have h9 := hN2 j q
              rw [lvOk, c_2] at h9
              simp at h9
            · omega
          refine lv_aload_n hx hb dX1_leaveDownTo_56 rfl (lv_at hl 0 rfl) ?_
          refine lv_dup hx hb dX1_leaveDownTo_57 rfl ?_
          refine c_get hx hb hts hi1 hown hK hP 11 (by decide) (List.mem_of_getElem? (i := 6) rfl) (v := .int (gI (lvI σ j) 11)) rfl dX1_leaveDownTo_58 (fun _ h => h) ?_
          refine lv_iload_n hx hb dX1_leaveDownTo_61 rfl (lv_at hl 2 rfl) ?_
          refine lv_iadd hx hb dX1_leaveDownTo_62 ?_
          refine c_put hx hb hts hi1 hown hK hP hD hS 11 (by decide) (List.mem_of_getElem? (i := 6) rfl) (v := .int ((gI (lvI σ j) 11) + (nI j))) (ty := .int) (uI (lvI σ j) 11 ((gI (lvI σ j) 11) + (nI j))) (cF_uI ar (lvI σ j) ((gI (lvI σ j) 11) + (nI j))).2.2.2.2.2.1 (fun _ => sF_uI _ _ _ _) (by decide) rfl (by decide +kernel) rfl rfl dX1_leaveDownTo_63 (fun _ h => h) (fun H locs hP hD hS => ?_)
          refine lv_iload_n hx hb dX1_leaveDownTo_66 rfl (lv_at hl 2 rfl) ?_
          exact x_iret hx hb hr hlocks hK (uI (lvI σ j) 11 ((gI (lvI σ j) 11) + (nI j))) hP hD hS ⟨by rw [hjN], by rw [lvD, ← hjN]⟩ dX1_leaveDownTo_67
        · have hk_3 : k_3 < 32 := nxt_lt c_2
          refine lv_aload_n hx hb dX1_leaveDownTo_17 rfl (lv_at hl 0 rfl) ?_
          refine x_calli (va_runV (As := []) (rest := []) ⟨hx, hb, hml, hown, hts⟩ (k_X1_used l D ax ar ad cO H.size (lvI σ j)) (cwV 0 hts gX1_leaveDownTo_X1_used rfl rfl rfl (by decide +kernel) ⟨Nat.le_of_ble_eq_true rfl, Nat.le_of_ble_eq_true rfl⟩) (xPreV xE_ok hE hK hA hP hD hS (q0 := 0) (ci := 1) rfl rfl rfl) rfl rfl hl.1 rfl (lv_room (Nat.le_of_ble_eq_true rfl)) dX1_leaveDownTo_18 ⟨Nat.le_of_ble_eq_true rfl, Nat.le_of_ble_eq_true rfl⟩) hD hS hA (fun r u H locs hp hP hD hS => ?_)
          obtain ⟨rfl, hu9⟩ := hp
          rw [hu9] at hP hD
          refine lv_iload_n hx hb dX1_leaveDownTo_21 rfl (lv_at hl 1 rfl) ?_
          refine x_icmp_le (tgt := 56) hx hb dX1_leaveDownTo_22 (by decide) (fun c_4 => ?_) (fun c_4 => ?_)
          · have hjN : j = lvE by9 σ := by
              rcases Nat.lt_or_ge j (lvE by9 σ) with q | q
              · have h9 := hN2 j q
                rw [lvOk, c_2] at h9
                simp [c_4] at h9
              · omega
            refine lv_aload_n hx hb dX1_leaveDownTo_56 rfl (lv_at hl 0 rfl) ?_
            refine lv_dup hx hb dX1_leaveDownTo_57 rfl ?_
            refine c_get hx hb hts hi1 hown hK hP 11 (by decide) (List.mem_of_getElem? (i := 6) rfl) (v := .int (gI (lvI σ j) 11)) rfl dX1_leaveDownTo_58 (fun _ h => h) ?_
            refine lv_iload_n hx hb dX1_leaveDownTo_61 rfl (lv_at hl 2 rfl) ?_
            refine lv_iadd hx hb dX1_leaveDownTo_62 ?_
            refine c_put hx hb hts hi1 hown hK hP hD hS 11 (by decide) (List.mem_of_getElem? (i := 6) rfl) (v := .int ((gI (lvI σ j) 11) + (nI j))) (ty := .int) (uI (lvI σ j) 11 ((gI (lvI σ j) 11) + (nI j))) (cF_uI ar (lvI σ j) ((gI (lvI σ j) 11) + (nI j))).2.2.2.2.2.1 (fun _ => sF_uI _ _ _ _) (by decide) rfl (by decide +kernel) rfl rfl dX1_leaveDownTo_63 (fun _ h => h) (fun H locs hP hD hS => ?_)
            refine lv_iload_n hx hb dX1_leaveDownTo_66 rfl (lv_at hl 2 rfl) ?_
            exact x_iret hx hb hr hlocks hK (uI (lvI σ j) 11 ((gI (lvI σ j) 11) + (nI j))) hP hD hS ⟨by rw [hjN], by rw [lvD, ← hjN]⟩ dX1_leaveDownTo_67
          · refine x_aload_nQ hx hb dX1_leaveDownTo_25 rfl (lv_at hl 3 rfl) ?_
            refine W.eq (g2 := F0 m 26 ls [.ref (ad k_3)]) (by rw [c_2]; rfl) ?_
            refine lv_iconst (v := 0) hx hb dX1_leaveDownTo_26 (by decide) ?_
            refine s_put hx hb hts hi0 hown hK hE hP hD hS hk_3 1 (by decide) rfl (v := .int (bI false)) (ty := .boolean) (uB (lvI σ j) 1 k_3 false) ((sF_self (lvI σ j) k_3).2.2.2.2.2.2.1 _) (fun i9 hi9 => (sF_other (lvI σ j) hi9).2.2.2.2.2.2.1 _) (cF_uB _ _ _ _ _) rfl (by decide +kernel) (bI_nar _) (bI_fit _) dX1_leaveDownTo_27 (fun _ h => h) (fun H locs hP hD hS => ?_)
            refine lv_aload_n hx hb dX1_leaveDownTo_30 rfl (lv_at hl 0 rfl) ?_
            refine lv_aload_n hx hb dX1_leaveDownTo_31 rfl (lv_at hl 0 rfl) ?_
            refine c_get hx hb hts hi1 hown hK hP 2 (by decide) (List.mem_of_getElem? (i := 1) rfl) (v := .long (gL (lvI σ j) 2)) rfl dX1_leaveDownTo_32 (fun _ h => h) ?_
            refine x_aload_nQ hx hb dX1_leaveDownTo_35 rfl (lv_at hl 3 rfl) ?_
            refine W.eq (g2 := F0 m 36 ls [.ref (ad k_3), .long (gL (lvI σ j) 2), .ref ax]) (by rw [c_2]; rfl) ?_
            refine s_get hx hb hts hi0 hown hK hE hP hk_3 6 (by decide) rfl (v := .long (gT (lvI σ j) 6 k_3)) rfl dX1_leaveDownTo_36 (fun _ h => h) ?_
            refine va_mmax_long hx hb (hml.trans hl.1.symm) hown (hts _ (List.mem_of_getElem? (i := 2) rfl)) (hts _ (List.mem_of_getElem? (i := 3) rfl)) (hts _ (List.mem_of_getElem? (i := 4) rfl)) (hts _ (List.mem_of_getElem? (i := 5) rfl)) (Nat.le_of_ble_eq_true rfl) (Nat.le_of_ble_eq_true rfl) (Nat.le_of_ble_eq_true rfl) (Nat.le_of_ble_eq_true rfl) dX1_leaveDownTo_39 ?_
            refine c_put hx hb hts hi1 hown hK hP hD hS 2 (by decide) (List.mem_of_getElem? (i := 1) rfl) (v := .long (if gT (lvI σ j) 6 k_3 < gL (lvI σ j) 2 then gL (lvI σ j) 2 else gT (lvI σ j) 6 k_3)) (ty := .long) (uL (uB (lvI σ j) 1 k_3 false) 2 (if gT (lvI σ j) 6 k_3 < gL (lvI σ j) 2 then gL (lvI σ j) 2 else gT (lvI σ j) 6 k_3)) (cF_uL ar (uB (lvI σ j) 1 k_3 false) (if gT (lvI σ j) 6 k_3 < gL (lvI σ j) 2 then gL (lvI σ j) 2 else gT (lvI σ j) 6 k_3)).1 (fun _ => sF_uL _ _ _ _) (by decide) rfl (by decide +kernel) rfl rfl dX1_leaveDownTo_42 (fun _ h => h) (fun H locs hP hD hS => ?_)
            have e9 : lvI σ (j + 1) = uL (uB (lvI σ j) 1 k_3 false) 2 (if gT (lvI σ j) 6 k_3 < gL (lvI σ j) 2 then gL (lvI σ j) 2 else gT (lvI σ j) 6 k_3) := by
              show (match nxt (lvI σ j) none with | none => lvI σ j | some k => lv1 (lvI σ j) k) = _
              rw [c_2]
              rfl
            rw [← e9] at hP hD
            refine lv_iinc (v := (nI j) + 1) (lv' := [(2, .int ((nI j) + 1)), (0, .ref ax), (1, .int by9), (3, va_rf ((nxt (lvI σ j) none).map ad))]) hx hb dX1_leaveDownTo_45 hl (k := 2) rfl rfl (by decide) rfl (fun ls hl => ?_)
            refine lv_aload_n hx hb dX1_leaveDownTo_48 rfl (lv_at hl 1 rfl) ?_
            refine x_callq (va_runV (As := []) (rest := []) ⟨hx, hb, hml, hown, hts⟩ (k_X1_firstInOrder l D ax ar ad cO H.size (lvI σ (j + 1))) (cwV 0 hts gX1_leaveDownTo_X1_firstInOrder rfl rfl rfl (by decide +kernel) ⟨Nat.le_of_ble_eq_true rfl, Nat.le_of_ble_eq_true rfl⟩) (xPreV xE_ok hE hK hA hP hD hS (q0 := 0) (ci := 1) rfl rfl rfl) rfl rfl hl.1 rfl (lv_room (Nat.le_of_ble_eq_true rfl)) dX1_leaveDownTo_49 ⟨Nat.le_of_ble_eq_true rfl, Nat.le_of_ble_eq_true rfl⟩) hD hS hA (fun r u H locs hp hP hD hS => ?_)
            obtain ⟨rfl, hu9⟩ := hp
            rw [hu9] at hP hD
            refine x_astore_nQ (lv' := [(3, va_rf ((nxt (lvI σ (j + 1)) none).map ad)), (2, .int ((nI j) + 1)), (0, .ref ax), (1, .int by9)]) hx hb dX1_leaveDownTo_52 rfl hl (by decide) rfl (fun ls hl => ?_)
            refine lv_goto (tgt := 7) hx hb dX1_leaveDownTo_53 (by decide) ?_
            have hlt : j < lvE by9 σ := by
              rcases Nat.lt_or_ge j (lvE by9 σ) with q | q
              · exact q
              · have hjN : j = lvE by9 σ := by omega
                rcases hN3 with h9 | h9
                · exact absurd ((nI_lt32 hj32).mp c_1) (by omega)
                · rw [← hjN, lvOk, c_2] at h9
                  simp [c_4] at h9
            exact ih (j + 1) ls H locs hlt (by omega) hP hD hS (by rw [nI_succ]; exact lv_sub hl [2, 3, 1, 0] rfl)
  exact loop (lvE by9 σ + 1) 0 _ _ _ (Nat.zero_le _) (by omega) hP hD hS (lv_sub hl [2, 3, 1, 0] rfl)
