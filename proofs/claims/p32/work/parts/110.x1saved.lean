set_option maxHeartbeats 4000000 in
set_option maxRecDepth 100000 in
theorem k_X1_saved (l : Launch) (D : va_G) (ax ar : Nat) (ad : Nat → Nat) (cO : ClassId) (sz : Nat) (σ : St) : Met l yX1_saved wsX1_saved ({ frames := 0, cells := 0, slots := 0, locals := 0 } : Room) (va_Pc [.ref ax] (xPre D (cT cO) xE (cW ax ar ad cO) σ sz)) (va_Ql (fun (r : Int64) (u : St) => r = gL σ 9 ∧ u = σ) (xB D (cT cO) (cW ax ar ad cO) (va_A (cW ax ar ad cO σ) sz)) (va_A (cW ax ar ad cO σ) sz)) 0 0 (va_A (cW ax ar ad cO σ) sz) := by
  refine xOpen (w := (cW ax ar ad cO)) (σ := σ) (cc := cX1_saved) (maxL := 1) (ret := some .long) (QQ := fun A => va_Ql (fun (r : Int64) (u : St) => r = gL σ 9 ∧ u = σ) (xB D (cT cO) (cW ax ar ad cO) A) A) (by decide) rfl (Nat.le_of_ble_eq_true rfl) ?_
  intro p e s m below meth c A hx hb hr hml hown hts hlocks hname hK hE hA hP hD hS ls hl
  have hl : lv_has ls 1 [(0, .ref ax)] := hl
  have hown : s.vm.findClass RX1 = some m.cls := hown
  have hi1 : ∀ w ∈ wsX10, w ∈ wsX1_saved := (fun _ h => List.mem_cons_of_mem _ (List.mem_append_right _ h))
  generalize hH : s.heap = H at hP
  have hS : va_S A s.heap H [] := by rw [← hH]; exact va_S.rf
  generalize hlo : ([] : List Loc) = locs at hS
  refine lv_aload_n hx hb dX1_saved_0 rfl (lv_at hl 0 rfl) ?_
  refine c_get hx hb hts hi1 hown hK hP 9 (by decide) (List.mem_of_getElem? (i := 1) rfl) (v := .long (gL σ 9)) rfl dX1_saved_1 (fun _ h => h) ?_
  exact x_lret hx hb hr hlocks hK (σ) hP hD hS ⟨rfl, rfl⟩ dX1_saved_4
set_option maxHeartbeats 4000000 in
set_option maxRecDepth 100000 in
theorem k_X1_paid (l : Launch) (D : va_G) (ax ar : Nat) (ad : Nat → Nat) (cO : ClassId) (sz : Nat) (σ : St) : Met l yX1_paid wsX1_paid ({ frames := 0, cells := 0, slots := 0, locals := 0 } : Room) (va_Pc [.ref ax] (xPre D (cT cO) xE (cW ax ar ad cO) σ sz)) (va_Ql (fun (r : Int64) (u : St) => r = gL σ 10 ∧ u = σ) (xB D (cT cO) (cW ax ar ad cO) (va_A (cW ax ar ad cO σ) sz)) (va_A (cW ax ar ad cO σ) sz)) 0 0 (va_A (cW ax ar ad cO σ) sz) := by
  refine xOpen (w := (cW ax ar ad cO)) (σ := σ) (cc := cX1_paid) (maxL := 1) (ret := some .long) (QQ := fun A => va_Ql (fun (r : Int64) (u : St) => r = gL σ 10 ∧ u = σ) (xB D (cT cO) (cW ax ar ad cO) A) A) (by decide) rfl (Nat.le_of_ble_eq_true rfl) ?_
  intro p e s m below meth c A hx hb hr hml hown hts hlocks hname hK hE hA hP hD hS ls hl
  have hl : lv_has ls 1 [(0, .ref ax)] := hl
  have hown : s.vm.findClass RX1 = some m.cls := hown
  have hi1 : ∀ w ∈ wsX10, w ∈ wsX1_paid := (fun _ h => List.mem_cons_of_mem _ (List.mem_append_right _ h))
  generalize hH : s.heap = H at hP
  have hS : va_S A s.heap H [] := by rw [← hH]; exact va_S.rf
  generalize hlo : ([] : List Loc) = locs at hS
  refine lv_aload_n hx hb dX1_paid_0 rfl (lv_at hl 0 rfl) ?_
  refine c_get hx hb hts hi1 hown hK hP 10 (by decide) (List.mem_of_getElem? (i := 1) rfl) (v := .long (gL σ 10)) rfl dX1_paid_1 (fun _ h => h) ?_
  exact x_lret hx hb hr hlocks hK (σ) hP hD hS ⟨rfl, rfl⟩ dX1_paid_4
set_option maxHeartbeats 4000000 in
set_option maxRecDepth 100000 in
theorem k_X1_left (l : Launch) (D : va_G) (ax ar : Nat) (ad : Nat → Nat) (cO : ClassId) (sz : Nat) (σ : St) : Met l yX1_left wsX1_left ({ frames := 0, cells := 0, slots := 0, locals := 0 } : Room) (va_Pc [.ref ax] (xPre D (cT cO) xE (cW ax ar ad cO) σ sz)) (va_Qi (fun (r : Int32) (u : St) => r = gI σ 11 ∧ u = σ) (xB D (cT cO) (cW ax ar ad cO) (va_A (cW ax ar ad cO σ) sz)) (va_A (cW ax ar ad cO σ) sz)) 0 0 (va_A (cW ax ar ad cO σ) sz) := by
  refine xOpen (w := (cW ax ar ad cO)) (σ := σ) (cc := cX1_left) (maxL := 1) (ret := some .int) (QQ := fun A => va_Qi (fun (r : Int32) (u : St) => r = gI σ 11 ∧ u = σ) (xB D (cT cO) (cW ax ar ad cO) A) A) (by decide) rfl (Nat.le_of_ble_eq_true rfl) ?_
  intro p e s m below meth c A hx hb hr hml hown hts hlocks hname hK hE hA hP hD hS ls hl
  have hl : lv_has ls 1 [(0, .ref ax)] := hl
  have hown : s.vm.findClass RX1 = some m.cls := hown
  have hi1 : ∀ w ∈ wsX10, w ∈ wsX1_left := (fun _ h => List.mem_cons_of_mem _ (List.mem_append_right _ h))
  generalize hH : s.heap = H at hP
  have hS : va_S A s.heap H [] := by rw [← hH]; exact va_S.rf
  generalize hlo : ([] : List Loc) = locs at hS
  refine lv_aload_n hx hb dX1_left_0 rfl (lv_at hl 0 rfl) ?_
  refine c_get hx hb hts hi1 hown hK hP 11 (by decide) (List.mem_of_getElem? (i := 1) rfl) (v := .int (gI σ 11)) rfl dX1_left_1 (fun _ h => h) ?_
  exact x_iret hx hb hr hlocks hK (σ) hP hD hS ⟨rfl, rfl⟩ dX1_left_4
