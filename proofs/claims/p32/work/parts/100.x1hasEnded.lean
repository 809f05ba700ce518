set_option maxHeartbeats 4000000 in
set_option maxRecDepth 100000 in
theorem k_X1_hasEnded (l : Launch) (D : va_G) (ax ar : Nat) (ad : Nat → Nat) (cO : ClassId) (sz : Nat) (σ : St) {k : Nat} (hk : k < 32) : Met l yX1_hasEnded wsX1_hasEnded ({ frames := 0, cells := 0, slots := 0, locals := 0 } : Room) (va_Pc [.ref ax, .ref (ad k)] (xPre D (cT cO) xE (cW ax ar ad cO) σ sz)) (va_Qi (fun (r : Int32) (u : St) => r = bI (ended σ k) ∧ u = σ) (xB D (cT cO) (cW ax ar ad cO) (va_A (cW ax ar ad cO σ) sz)) (va_A (cW ax ar ad cO σ) sz)) 0 0 (va_A (cW ax ar ad cO σ) sz) := by
  refine xOpen (w := (cW ax ar ad cO)) (σ := σ) (cc := cX1_hasEnded) (maxL := 2) (ret := some .boolean) (QQ := fun A => va_Qi (fun (r : Int32) (u : St) => r = bI (ended σ k) ∧ u = σ) (xB D (cT cO) (cW ax ar ad cO) A) A) (by decide) rfl (Nat.le_of_ble_eq_true rfl) ?_
  intro p e s m below meth c A hx hb hr hml hown hts hlocks hname hK hE hA hP hD hS ls hl
  have hl : lv_has ls 2 [(0, .ref ax), (1, .ref (ad k))] := hl
  have hown : s.vm.findClass RX1 = some m.cls := hown
  have hi0 : ∀ w ∈ wsX00, w ∈ wsX1_hasEnded := (fun _ h => List.mem_cons_of_mem _ (List.mem_append_right _ h))
  have hi1 : ∀ w ∈ wsX10, w ∈ wsX1_hasEnded := (fun _ h => List.mem_cons_of_mem _ (List.mem_append_left _ (List.mem_append_right _ h)))
  generalize hH : s.heap = H at hP
  have hS : va_S A s.heap H [] := by rw [← hH]; exact va_S.rf
  generalize hlo : ([] : List Loc) = locs at hS
  refine lv_aload_n hx hb dX1_hasEnded_0 rfl (lv_at hl 0 rfl) ?_
  refine c_get hx hb hts hi1 hown hK hP 1 (by decide) (List.mem_of_getElem? (i := 1) rfl) (v := .int (gI σ 1)) rfl dX1_hasEnded_1 (fun _ h => h) ?_
  refine lv_aload_n hx hb dX1_hasEnded_4 rfl (lv_at hl 1 rfl) ?_
  refine s_get hx hb hts hi0 hown hK hE hP hk 5 (by decide) rfl (v := .int (gS σ 5 k)) rfl dX1_hasEnded_5 (fun _ h => h) ?_
  refine lv_icmp_lt (tgt := 15) hx hb dX1_hasEnded_8 (by decide) (fun c_1 => ?_) (fun c_1 => ?_)
  · refine lv_iconst (v := 0) hx hb dX1_hasEnded_15 (by decide) ?_
    exact x_zret (b := false) hx hb hr hlocks hK (σ) hP hD hS ⟨by simp only [ended]; simp [c_1], rfl⟩ dX1_hasEnded_16
  · refine lv_iconst (v := 1) hx hb dX1_hasEnded_11 (by decide) ?_
    refine lv_goto (tgt := 16) hx hb dX1_hasEnded_12 (by decide) ?_
    exact x_zret (b := true) hx hb hr hlocks hK (σ) hP hD hS ⟨by simp only [ended]; simp [c_1], rfl⟩ dX1_hasEnded_16
set_option maxHeartbeats 4000000 in
set_option maxRecDepth 100000 in
theorem k_X1_isInOrder (l : Launch) (D : va_G) (ax ar : Nat) (ad : Nat → Nat) (cO : ClassId) (sz : Nat) (σ : St) {k : Nat} (hk : k < 32) : Met l yX1_isInOrder wsX1_isInOrder ({ frames := 0, cells := 0, slots := 0, locals := 0 } : Room) (va_Pc [.ref (ad k)] (xPre D (cT cO) xE (cW ax ar ad cO) σ sz)) (va_Qi (fun (r : Int32) (u : St) => r = bI (inO σ k) ∧ u = σ) (xB D (cT cO) (cW ax ar ad cO) (va_A (cW ax ar ad cO σ) sz)) (va_A (cW ax ar ad cO σ) sz)) 0 0 (va_A (cW ax ar ad cO σ) sz) := by
  refine xOpen (w := (cW ax ar ad cO)) (σ := σ) (cc := cX1_isInOrder) (maxL := 1) (ret := some .boolean) (QQ := fun A => va_Qi (fun (r : Int32) (u : St) => r = bI (inO σ k) ∧ u = σ) (xB D (cT cO) (cW ax ar ad cO) A) A) (by decide) rfl (Nat.le_of_ble_eq_true rfl) ?_
  intro p e s m below meth c A hx hb hr hml hown hts hlocks hname hK hE hA hP hD hS ls hl
  have hl : lv_has ls 1 [(0, .ref (ad k))] := hl
  have hown : s.vm.findClass RX1 = some m.cls := hown
  have hi0 : ∀ w ∈ wsX00, w ∈ wsX1_isInOrder := (fun _ h => List.mem_cons_of_mem _ (List.mem_append_right _ h))
  generalize hH : s.heap = H at hP
  have hS : va_S A s.heap H [] := by rw [← hH]; exact va_S.rf
  generalize hlo : ([] : List Loc) = locs at hS
  refine lv_aload_n hx hb dX1_isInOrder_0 rfl (lv_at hl 0 rfl) ?_
  refine s_get hx hb hts hi0 hown hK hE hP hk 1 (by decide) rfl (v := .int (bI (gB σ 1 k))) rfl dX1_isInOrder_1 (fun _ h => h) ?_
  refine x_ifeq (tgt := 18) hx hb dX1_isInOrder_4 (by decide) (fun c_1 => ?_) (fun c_1 => ?_)
  · refine lv_iconst (v := 0) hx hb dX1_isInOrder_18 (by decide) ?_
    exact x_zret (b := false) hx hb hr hlocks hK (σ) hP hD hS ⟨by simp only [inO]; simp [c_1], rfl⟩ dX1_isInOrder_19
  · refine lv_aload_n hx hb dX1_isInOrder_7 rfl (lv_at hl 0 rfl) ?_
    refine s_get hx hb hts hi0 hown hK hE hP hk 2 (by decide) rfl (v := .int (bI (gB σ 2 k))) rfl dX1_isInOrder_8 (fun _ h => h) ?_
    refine x_ifne (tgt := 18) hx hb dX1_isInOrder_11 (by decide) (fun c_2 => ?_) (fun c_2 => ?_)
    · refine lv_iconst (v := 0) hx hb dX1_isInOrder_18 (by decide) ?_
      exact x_zret (b := false) hx hb hr hlocks hK (σ) hP hD hS ⟨by simp only [inO]; simp [c_1, c_2], rfl⟩ dX1_isInOrder_19
    · refine lv_iconst (v := 1) hx hb dX1_isInOrder_14 (by decide) ?_
      refine lv_goto (tgt := 19) hx hb dX1_isInOrder_15 (by decide) ?_
      exact x_zret (b := true) hx hb hr hlocks hK (σ) hP hD hS ⟨by simp only [inO]; simp [c_1, c_2], rfl⟩ dX1_isInOrder_19
set_option maxHeartbeats 4000000 in
set_option maxRecDepth 100000 in
theorem k_X1_leavesBefore (l : Launch) (D : va_G) (ax ar : Nat) (ad : Nat → Nat) (cO : ClassId) (sz : Nat) (σ : St) {i j : Nat} (hi : i < 32) (hj : j < 32) : Met l yX1_leavesBefore wsX1_leavesBefore ({ frames := 0, cells := 0, slots := 0, locals := 0 } : Room) (va_Pc [.ref (ad i), .ref (ad j)] (xPre D (cT cO) xE (cW ax ar ad cO) σ sz)) (va_Qi (fun (r : Int32) (u : St) => r = bI (bef σ i j) ∧ u = σ) (xB D (cT cO) (cW ax ar ad cO) (va_A (cW ax ar ad cO σ) sz)) (va_A (cW ax ar ad cO σ) sz)) 0 0 (va_A (cW ax ar ad cO σ) sz) := by
  refine xOpen (w := (cW ax ar ad cO)) (σ := σ) (cc := cX1_leavesBefore) (maxL := 2) (ret := some .boolean) (QQ := fun A => va_Qi (fun (r : Int32) (u : St) => r = bI (bef σ i j) ∧ u = σ) (xB D (cT cO) (cW ax ar ad cO) A) A) (by decide) rfl (Nat.le_of_ble_eq_true rfl) ?_
  intro p e s m below meth c A hx hb hr hml hown hts hlocks hname hK hE hA hP hD hS ls hl
  have hl : lv_has ls 2 [(0, .ref (ad i)), (1, .ref (ad j))] := hl
  have hown : s.vm.findClass RX1 = some m.cls := hown
  have hi0 : ∀ w ∈ wsX00, w ∈ wsX1_leavesBefore := (fun _ h => List.mem_cons_of_mem _ (List.mem_append_right _ h))
  generalize hH : s.heap = H at hP
  have hS : va_S A s.heap H [] := by rw [← hH]; exact va_S.rf
  generalize hlo : ([] : List Loc) = locs at hS
  refine lv_aload_n hx hb dX1_leavesBefore_0 rfl (lv_at hl 0 rfl) ?_
  refine s_get hx hb hts hi0 hown hK hE hP hi 6 (by decide) rfl (v := .long (gT σ 6 i)) rfl dX1_leavesBefore_1 (fun _ h => h) ?_
  refine lv_aload_n hx hb dX1_leavesBefore_4 rfl (lv_at hl 1 rfl) ?_
  refine s_get hx hb hts hi0 hown hK hE hP hj 6 (by decide) rfl (v := .long (gT σ 6 j)) rfl dX1_leavesBefore_5 (fun _ h => h) ?_
  refine x_lt (tgt := 36) hx hb dX1_leavesBefore_8 dX1_leavesBefore_9 (by decide) (fun c_1 => ?_) (fun c_1 => ?_)
  · refine lv_iconst (v := 1) hx hb dX1_leavesBefore_36 (by decide) ?_
    refine lv_goto (tgt := 41) hx hb dX1_leavesBefore_37 (by decide) ?_
    exact x_zret (b := true) hx hb hr hlocks hK (σ) hP hD hS ⟨by simp only [bef]; simp [c_1], rfl⟩ dX1_leavesBefore_41
  · refine lv_aload_n hx hb dX1_leavesBefore_12 rfl (lv_at hl 0 rfl) ?_
    refine s_get hx hb hts hi0 hown hK hE hP hi 6 (by decide) rfl (v := .long (gT σ 6 i)) rfl dX1_leavesBefore_13 (fun _ h => h) ?_
    refine lv_aload_n hx hb dX1_leavesBefore_16 rfl (lv_at hl 1 rfl) ?_
    refine s_get hx hb hts hi0 hown hK hE hP hj 6 (by decide) rfl (v := .long (gT σ 6 j)) rfl dX1_leavesBefore_17 (fun _ h => h) ?_
    refine x_ne (tgt := 40) hx hb dX1_leavesBefore_20 dX1_leavesBefore_21 (by decide) (fun c_2 => ?_) (fun c_2 => ?_)
    · refine lv_iconst (v := 0) hx hb dX1_leavesBefore_40 (by decide) ?_
      exact x_zret (b := false) hx hb hr hlocks hK (σ) hP hD hS ⟨by simp only [bef]; simp [c_1, c_2], rfl⟩ dX1_leavesBefore_41
    · refine lv_aload_n hx hb dX1_leavesBefore_24 rfl (lv_at hl 0 rfl) ?_
      refine s_get hx hb hts hi0 hown hK hE hP hi 7 (by decide) rfl (v := .long (gT σ 7 i)) rfl dX1_leavesBefore_25 (fun _ h => h) ?_
      refine lv_aload_n hx hb dX1_leavesBefore_28 rfl (lv_at hl 1 rfl) ?_
      refine s_get hx hb hts hi0 hown hK hE hP hj 7 (by decide) rfl (v := .long (gT σ 7 j)) rfl dX1_leavesBefore_29 (fun _ h => h) ?_
      refine x_ge (tgt := 40) hx hb dX1_leavesBefore_32 dX1_leavesBefore_33 (by decide) (fun c_3 => ?_) (fun c_3 => ?_)
      · refine lv_iconst (v := 0) hx hb dX1_leavesBefore_40 (by decide) ?_
        exact x_zret (b := false) hx hb hr hlocks hK (σ) hP hD hS ⟨by simp only [bef]; simp [c_1, c_2, c_3], rfl⟩ dX1_leavesBefore_41
      · refine lv_iconst (v := 1) hx hb dX1_leavesBefore_36 (by decide) ?_
        refine lv_goto (tgt := 41) hx hb dX1_leavesBefore_37 (by decide) ?_
        exact x_zret (b := true) hx hb hr hlocks hK (σ) hP hD hS ⟨by simp only [bef]; simp [c_1, c_2, c_3], rfl⟩ dX1_leavesBefore_41
