set_option maxHeartbeats 4000000 in
set_option maxRecDepth 100000 in
theorem k_L_setThreshold (l : Launch) (D : va_G) (ax ar : Nat) (ad : Nat → Nat) (cO : ClassId) (bo : Nat) (cL : ClassId) (sz : Nat) (σ : St) (v : Int64) (t : Int32) (hfl : l.stackTraces = false) : Met l yL_setThreshold wsL_setThreshold ({ frames := 9, cells := 1, slots := 6, locals := 260 } : Room) (va_Pc [.ref ax, .int t, .ref bo] (xPre D (tL cO cL) xE (wL ax ar ad cO bo cL) (σ, v) sz)) (va_Qi (fun (r : Int32) (u : St × Int64) => (r = 0 ∧ (∃ r0 : Int32, (inR t 1 1000 = true ∧ r0 = gI σ 4 ∧ u.1 = uI σ 4 t) ∧ u.2 = r0.toInt64)) ∨ (r = 1 ∧ (inR t 1 1000 = false) ∧ u = (σ, v))) (xB D (tL cO cL) (wL ax ar ad cO bo cL) (va_A (wL ax ar ad cO bo cL (σ, v)) sz)) (va_A (wL ax ar ad cO bo cL (σ, v)) sz)) 1 6 (va_A (wL ax ar ad cO bo cL (σ, v)) sz) := by
  refine xwOpen (w := (wL ax ar ad cO bo cL)) (σ := (σ, v)) (cc := cL_setThreshold) (maxL := 4) (ret := some .int) (hh := [(0, 9, 12, 15)]) (QQ := fun A => va_Qi (fun (r : Int32) (u : St × Int64) => (r = 0 ∧ (∃ r0 : Int32, (inR t 1 1000 = true ∧ r0 = gI σ 4 ∧ u.1 = uI σ 4 t) ∧ u.2 = r0.toInt64)) ∨ (r = 1 ∧ (inR t 1 1000 = false) ∧ u = (σ, v))) (xB D (tL cO cL) (wL ax ar ad cO bo cL) A) A) (by decide) rfl (Nat.le_of_ble_eq_true rfl) ?_
  intro p e s m below meth c A hx hb hr hml hown hts hlocks htab hK hE hA hP hD hS ls hl
  have hl : lv_has ls 4 [(0, .ref ax), (1, .int t), (2, .ref bo)] := hl
  have hown : s.vm.findClass RL = some m.cls := hown
  have hKc : va_K D vwCl (cT cO) s := hK.sub [0] rfl
  generalize hH : s.heap = H at hP
  have hS : va_S A s.heap H [] := by rw [← hH]; exact va_S.rf
  generalize hlo : ([] : List Loc) = locs at hS
  refine lv_aload_n hx hb dL_setThreshold_0 rfl (lv_at hl 2 rfl) ?_
  refine lv_iconst (v := 0) hx hb dL_setThreshold_1 (by decide) ?_
  refine lv_aload_n hx hb dL_setThreshold_2 rfl (lv_at hl 0 rfl) ?_
  refine lv_iload_n hx hb dL_setThreshold_3 rfl (lv_at hl 1 rfl) ?_
  refine ff_calli (vx_runV (As := [.int t]) (rest := [.int 0, .ref bo]) ⟨hx, hb, hml, hown, hts⟩ (k_X1_setThreshold l D ax ar ad cO H.size σ t hfl) (cwV 1 hts gL_setThreshold_X1_setThreshold rfl rfl rfl (by decide +kernel) ⟨Nat.le_of_ble_eq_true rfl, Nat.le_of_ble_eq_true rfl⟩) (xPreV xE_ok hE hKc hA (P_l hP) (D_l hD) hS (q0 := 0) (ci := 1) rfl rfl rfl) rfl rfl hl.1 rfl (lv_room (Nat.le_of_ble_eq_true rfl)) dL_setThreshold_4 ⟨Nat.le_of_ble_eq_true rfl, Nat.le_of_ble_eq_true rfl⟩) hP hD hS hA (fun En ce q9 H locs hxc hP hS hq9 hv9 hcl9 => ?_) (fun r u H locs hp hP hD hS => ?_)
  · obtain ⟨rfl, hc9⟩ := hxc
    refine vx_catch (name := xIA) hown [] ⟨0, 9, 12, 15⟩ [] (by rw [htab]; rfl) (fun z hz => nomatch hz) (by decide) (by decide) (hts (.classLink RL 15 "java/lang/IllegalArgumentException") (List.mem_of_getElem? (i := 1) rfl)) (va_Nw.use rfl (hE.1.2.2.2.1 xIA (List.mem_of_getElem? (i := 1) rfl))) hq9 hv9 hcl9 ?_
    refine lv_astore_n (lv' := (3, .ref q9) :: [(0, .ref ax), (1, .int t), (2, .ref bo)]) hx hb dL_setThreshold_12 rfl hl (by decide) rfl (fun ls hl => ?_)
    refine lv_iconst (v := 1) hx hb dL_setThreshold_13 (by decide) ?_
    exact x_iret hx hb hr hlocks hK ((σ, v) : St × Int64) hP hD hS (Or.inr ⟨rfl, hc9, rfl⟩) dL_setThreshold_14
  · refine lv_i2l hx hb dL_setThreshold_7 rfl ?_
    refine va_last hx hb hK hP hD hS (cW ax ar ad cO u).length 1 (get_app _ _) rfl (by unfold vp_in; decide) dL_setThreshold_8 (fun H locs hP hD hS => ?_)
    rw [set_app] at hP hD
    have hP := o_P (x := r.toInt64) hP rfl
    have hD := o_D (x := r.toInt64) hD
    refine lv_goto (tgt := 15) hx hb dL_setThreshold_9 (by decide) ?_
    refine lv_iconst (v := 0) hx hb dL_setThreshold_15 (by decide) ?_
    exact x_iret hx hb hr hlocks hK ((u, r.toInt64) : St × Int64) hP hD hS (Or.inl ⟨rfl, r, hp, rfl⟩) dL_setThreshold_16

set_option maxHeartbeats 4000000 in
set_option maxRecDepth 100000 in
theorem k_L_has (l : Launch) (D : va_G) (ax ar : Nat) (ad : Nat → Nat) (cO : ClassId) (bo : Nat) (cL : ClassId) (sz : Nat) (σ : St) (v : Int64) (t : Int32) (hfl : l.stackTraces = false) : Met l yL_has wsL_has ({ frames := 9, cells := 1, slots := 6, locals := 260 } : Room) (va_Pc [.ref ax, .int t, .ref bo] (xPre D (tL cO cL) xE (wL ax ar ad cO bo cL) (σ, v) sz)) (va_Qi (fun (r : Int32) (u : St × Int64) => (r = 0 ∧ (∃ r0 : Int32, (isT t = true ∧ (∀ k, k < 32 → t = nI k → r0 = bI (gB σ 1 k)) ∧ u.1 = σ) ∧ u.2 = (if r0 = 0 then 0 else 1))) ∨ (r = 1 ∧ (isT t = false) ∧ u = (σ, v))) (xB D (tL cO cL) (wL ax ar ad cO bo cL) (va_A (wL ax ar ad cO bo cL (σ, v)) sz)) (va_A (wL ax ar ad cO bo cL (σ, v)) sz)) 1 6 (va_A (wL ax ar ad cO bo cL (σ, v)) sz) := by
  refine xwOpen (w := (wL ax ar ad cO bo cL)) (σ := (σ, v)) (cc := cL_has) (maxL := 4) (ret := some .int) (hh := [(0, 16, 19, 13)]) (QQ := fun A => va_Qi (fun (r : Int32) (u : St × Int64) => (r = 0 ∧ (∃ r0 : Int32, (isT t = true ∧ (∀ k, k < 32 → t = nI k → r0 = bI (gB σ 1 k)) ∧ u.1 = σ) ∧ u.2 = (if r0 = 0 then 0 else 1))) ∨ (r = 1 ∧ (isT t = false) ∧ u = (σ, v))) (xB D (tL cO cL) (wL ax ar ad cO bo cL) A) A) (by decide) rfl (Nat.le_of_ble_eq_true rfl) ?_
  intro p e s m below meth c A hx hb hr hml hown hts hlocks htab hK hE hA hP hD hS ls hl
  have hl : lv_has ls 4 [(0, .ref ax), (1, .int t), (2, .ref bo)] := hl
  have hown : s.vm.findClass RL = some m.cls := hown
  have hKc : va_K D vwCl (cT cO) s := hK.sub [0] rfl
  generalize hH : s.heap = H at hP
  have hS : va_S A s.heap H [] := by rw [← hH]; exact va_S.rf
  generalize hlo : ([] : List Loc) = locs at hS
  refine lv_aload_n hx hb dL_has_0 rfl (lv_at hl 2 rfl) ?_
  refine lv_iconst (v := 0) hx hb dL_has_1 (by decide) ?_
  refine lv_aload_n hx hb dL_has_2 rfl (lv_at hl 0 rfl) ?_
  refine lv_iload_n hx hb dL_has_3 rfl (lv_at hl 1 rfl) ?_
  refine ff_calli (vx_runV (As := [.int t]) (rest := [.int 0, .ref bo]) ⟨hx, hb, hml, hown, hts⟩ (k_X1_has l D ax ar ad cO H.size σ t hfl) (cwV 1 hts gL_has_X1_has rfl rfl rfl (by decide +kernel) ⟨Nat.le_of_ble_eq_true rfl, Nat.le_of_ble_eq_true rfl⟩) (xPreV xE_ok hE hKc hA (P_l hP) (D_l hD) hS (q0 := 0) (ci := 1) rfl rfl rfl) rfl rfl hl.1 rfl (lv_room (Nat.le_of_ble_eq_true rfl)) dL_has_4 ⟨Nat.le_of_ble_eq_true rfl, Nat.le_of_ble_eq_true rfl⟩) hP hD hS hA (fun En ce q9 H locs hxc hP hS hq9 hv9 hcl9 => ?_) (fun r u H locs hp hP hD hS => ?_)
  · obtain ⟨rfl, hc9⟩ := hxc
    refine vx_catch (name := xIO) hown [] ⟨0, 16, 19, 13⟩ [] (by rw [htab]; rfl) (fun z hz => nomatch hz) (by decide) (by decide) (hts (.classLink RL 13 "java/lang/IndexOutOfBoundsException") (List.mem_of_getElem? (i := 1) rfl)) (va_Nw.use rfl (hE.1.2.2.2.1 xIO (List.mem_of_getElem? (i := 0) rfl))) hq9 hv9 hcl9 ?_
    refine lv_astore_n (lv' := (3, .ref q9) :: [(0, .ref ax), (1, .int t), (2, .ref bo)]) hx hb dL_has_19 rfl hl (by decide) rfl (fun ls hl => ?_)
    refine lv_iconst (v := 1) hx hb dL_has_20 (by decide) ?_
    exact x_iret hx hb hr hlocks hK ((σ, v) : St × Int64) hP hD hS (Or.inr ⟨rfl, hc9, rfl⟩) dL_has_21
  · refine lv_if_eq (tgt := 14) hx hb dL_has_7 (by decide) (fun c_1 => ?_) (fun c_1 => ?_)
    · refine lv_lconst (v := 0) hx hb dL_has_14 (by decide) ?_
      refine va_last hx hb hK hP hD hS (cW ax ar ad cO u).length 1 (get_app _ _) rfl (by unfold vp_in; decide) dL_has_15 (fun H locs hP hD hS => ?_)
      rw [set_app] at hP hD
      have hP := o_P (x := 0) hP rfl
      have hD := o_D (x := 0) hD
      refine lv_goto (tgt := 22) hx hb dL_has_16 (by decide) ?_
      refine lv_iconst (v := 0) hx hb dL_has_22 (by decide) ?_
      exact x_iret hx hb hr hlocks hK ((u, 0) : St × Int64) hP hD hS (Or.inl ⟨rfl, r, hp, by rw [if_pos c_1]⟩) dL_has_23
    · refine lv_lconst (v := 1) hx hb dL_has_10 (by decide) ?_
      refine lv_goto (tgt := 15) hx hb dL_has_11 (by decide) ?_
      refine va_last hx hb hK hP hD hS (cW ax ar ad cO u).length 1 (get_app _ _) rfl (by unfold vp_in; decide) dL_has_15 (fun H locs hP hD hS => ?_)
      rw [set_app] at hP hD
      have hP := o_P (x := 1) hP rfl
      have hD := o_D (x := 1) hD
      refine lv_goto (tgt := 22) hx hb dL_has_16 (by decide) ?_
      refine lv_iconst (v := 0) hx hb dL_has_22 (by decide) ?_
      exact x_iret hx hb hr hlocks hK ((u, 1) : St × Int64) hP hD hS (Or.inl ⟨rfl, r, hp, by rw [if_neg c_1]⟩) dL_has_23

set_option maxHeartbeats 4000000 in
set_option maxRecDepth 100000 in
theorem k_L_isOver (l : Launch) (D : va_G) (ax ar : Nat) (ad : Nat → Nat) (cO : ClassId) (bo : Nat) (cL : ClassId) (sz : Nat) (σ : St) (v : Int64) (t : Int32) (hfl : l.stackTraces = false) : Met l yL_isOver wsL_isOver ({ frames := 9, cells := 1, slots := 6, locals := 260 } : Room) (va_Pc [.ref ax, .int t, .ref bo] (xPre D (tL cO cL) xE (wL ax ar ad cO bo cL) (σ, v) sz)) (va_Qi (fun (r : Int32) (u : St × Int64) => (r = 0 ∧ (∃ r0 : Int32, (isT t = true ∧ (∀ k, k < 32 → t = nI k → r0 = bI (gB σ 1 k && ended σ k)) ∧ u.1 = σ) ∧ u.2 = (if r0 = 0 then 0 else 1))) ∨ (r = 1 ∧ (isT t = false) ∧ u = (σ, v))) (xB D (tL cO cL) (wL ax ar ad cO bo cL) (va_A (wL ax ar ad cO bo cL (σ, v)) sz)) (va_A (wL ax ar ad cO bo cL (σ, v)) sz)) 1 6 (va_A (wL ax ar ad cO bo cL (σ, v)) sz) := by
  refine xwOpen (w := (wL ax ar ad cO bo cL)) (σ := (σ, v)) (cc := cL_isOver) (maxL := 4) (ret := some .int) (hh := [(0, 16, 19, 13)]) (QQ := fun A => va_Qi (fun (r : Int32) (u : St × Int64) => (r = 0 ∧ (∃ r0 : Int32, (isT t = true ∧ (∀ k, k < 32 → t = nI k → r0 = bI (gB σ 1 k && ended σ k)) ∧ u.1 = σ) ∧ u.2 = (if r0 = 0 then 0 else 1))) ∨ (r = 1 ∧ (isT t = false) ∧ u = (σ, v))) (xB D (tL cO cL) (wL ax ar ad cO bo cL) A) A) (by decide) rfl (Nat.le_of_ble_eq_true rfl) ?_
  intro p e s m below meth c A hx hb hr hml hown hts hlocks htab hK hE hA hP hD hS ls hl
  have hl : lv_has ls 4 [(0, .ref ax), (1, .int t), (2, .ref bo)] := hl
  have hown : s.vm.findClass RL = some m.cls := hown
  have hKc : va_K D vwCl (cT cO) s := hK.sub [0] rfl
  generalize hH : s.heap = H at hP
  have hS : va_S A s.heap H [] := by rw [← hH]; exact va_S.rf
  generalize hlo : ([] : List Loc) = locs at hS
  refine lv_aload_n hx hb dL_isOver_0 rfl (lv_at hl 2 rfl) ?_
  refine lv_iconst (v := 0) hx hb dL_isOver_1 (by decide) ?_
  refine lv_aload_n hx hb dL_isOver_2 rfl (lv_at hl 0 rfl) ?_
  refine lv_iload_n hx hb dL_isOver_3 rfl (lv_at hl 1 rfl) ?_
  refine ff_calli (vx_runV (As := [.int t]) (rest := [.int 0, .ref bo]) ⟨hx, hb, hml, hown, hts⟩ (k_X1_isOver l D ax ar ad cO H.size σ t hfl) (cwV 1 hts gL_isOver_X1_isOver rfl rfl rfl (by decide +kernel) ⟨Nat.le_of_ble_eq_true rfl, Nat.le_of_ble_eq_true rfl⟩) (xPreV xE_ok hE hKc hA (P_l hP) (D_l hD) hS (q0 := 0) (ci := 1) rfl rfl rfl) rfl rfl hl.1 rfl (lv_room (Nat.le_of_ble_eq_true rfl)) dL_isOver_4 ⟨Nat.le_of_ble_eq_true rfl, Nat.le_of_ble_eq_true rfl⟩) hP hD hS hA (fun En ce q9 H locs hxc hP hS hq9 hv9 hcl9 => ?_) (fun r u H locs hp hP hD hS => ?_)
  · obtain ⟨rfl, hc9⟩ := hxc
    refine vx_catch (name := xIO) hown [] ⟨0, 16, 19, 13⟩ [] (by rw [htab]; rfl) (fun z hz => nomatch hz) (by decide) (by decide) (hts (.classLink RL 13 "java/lang/IndexOutOfBoundsException") (List.mem_of_getElem? (i := 1) rfl)) (va_Nw.use rfl (hE.1.2.2.2.1 xIO (List.mem_of_getElem? (i := 0) rfl))) hq9 hv9 hcl9 ?_
    refine lv_astore_n (lv' := (3, .ref q9) :: [(0, .ref ax), (1, .int t), (2, .ref bo)]) hx hb dL_isOver_19 rfl hl (by decide) rfl (fun ls hl => ?_)
    refine lv_iconst (v := 1) hx hb dL_isOver_20 (by decide) ?_
    exact x_iret hx hb hr hlocks hK ((σ, v) : St × Int64) hP hD hS (Or.inr ⟨rfl, hc9, rfl⟩) dL_isOver_21
  · refine lv_if_eq (tgt := 14) hx hb dL_isOver_7 (by decide) (fun c_1 => ?_) (fun c_1 => ?_)
    · refine lv_lconst (v := 0) hx hb dL_isOver_14 (by decide) ?_
      refine va_last hx hb hK hP hD hS (cW ax ar ad cO u).length 1 (get_app _ _) rfl (by unfold vp_in; decide) dL_isOver_15 (fun H locs hP hD hS => ?_)
      rw [set_app] at hP hD
      have hP := o_P (x := 0) hP rfl
      have hD := o_D (x := 0) hD
      refine lv_goto (tgt := 22) hx hb dL_isOver_16 (by decide) ?_
      refine lv_iconst (v := 0) hx hb dL_isOver_22 (by decide) ?_
      exact x_iret hx hb hr hlocks hK ((u, 0) : St × Int64) hP hD hS (Or.inl ⟨rfl, r, hp, by rw [if_pos c_1]⟩) dL_isOver_23
    · refine lv_lconst (v := 1) hx hb dL_isOver_10 (by decide) ?_
      refine lv_goto (tgt := 15) hx hb dL_isOver_11 (by decide) ?_
      refine va_last hx hb hK hP hD hS (cW ax ar ad cO u).length 1 (get_app _ _) rfl (by unfold vp_in; decide) dL_isOver_15 (fun H locs hP hD hS => ?_)
      rw [set_app] at hP hD
      have hP := o_P (x := 1) hP rfl
      have hD := o_D (x := 1) hD
      refine lv_goto (tgt := 22) hx hb dL_isOver_16 (by decide) ?_
      refine lv_iconst (v := 0) hx hb dL_isOver_22 (by decide) ?_
      exact x_iret hx hb hr hlocks hK ((u, 1) : St × Int64) hP hD hS (Or.inl ⟨rfl, r, hp, by rw [if_neg c_1]⟩) dL_isOver_23

set_option maxHeartbeats 4000000 in
set_option maxRecDepth 100000 in
theorem k_L_sizeOf (l : Launch) (D : va_G) (ax ar : Nat) (ad : Nat → Nat) (cO : ClassId) (bo : Nat) (cL : ClassId) (sz : Nat) (σ : St) (v : Int64) (t : Int32) (hfl : l.stackTraces = false) : Met l yL_sizeOf wsL_sizeOf ({ frames := 9, cells := 1, slots := 6, locals := 260 } : Room) (va_Pc [.ref ax, .int t, .ref bo] (xPre D (tL cO cL) xE (wL ax ar ad cO bo cL) (σ, v) sz)) (va_Qi (fun (r : Int32) (u : St × Int64) => (r = 0 ∧ (∃ r0 : Int32, (isT t = true ∧ (∀ k, k < 32 → t = nI k → r0 = if gB σ 1 k then gS σ 3 k else 0) ∧ u.1 = σ) ∧ u.2 = r0.toInt64)) ∨ (r = 1 ∧ (isT t = false) ∧ u = (σ, v))) (xB D (tL cO cL) (wL ax ar ad cO bo cL) (va_A (wL ax ar ad cO bo cL (σ, v)) sz)) (va_A (wL ax ar ad cO bo cL (σ, v)) sz)) 1 6 (va_A (wL ax ar ad cO bo cL (σ, v)) sz) := by
  refine xwOpen (w := (wL ax ar ad cO bo cL)) (σ := (σ, v)) (cc := cL_sizeOf) (maxL := 4) (ret := some .int) (hh := [(0, 9, 12, 13)]) (QQ := fun A => va_Qi (fun (r : Int32) (u : St × Int64) => (r = 0 ∧ (∃ r0 : Int32, (isT t = true ∧ (∀ k, k < 32 → t = nI k → r0 = if gB σ 1 k then gS σ 3 k else 0) ∧ u.1 = σ) ∧ u.2 = r0.toInt64)) ∨ (r = 1 ∧ (isT t = false) ∧ u = (σ, v))) (xB D (tL cO cL) (wL ax ar ad cO bo cL) A) A) (by decide) rfl (Nat.le_of_ble_eq_true rfl) ?_
  intro p e s m below meth c A hx hb hr hml hown hts hlocks htab hK hE hA hP hD hS ls hl
  have hl : lv_has ls 4 [(0, .ref ax), (1, .int t), (2, .ref bo)] := hl
  have hown : s.vm.findClass RL = some m.cls := hown
  have hKc : va_K D vwCl (cT cO) s := hK.sub [0] rfl
  generalize hH : s.heap = H at hP
  have hS : va_S A s.heap H [] := by rw [← hH]; exact va_S.rf
  generalize hlo : ([] : List Loc) = locs at hS
  refine lv_aload_n hx hb dL_sizeOf_0 rfl (lv_at hl 2 rfl) ?_
  refine lv_iconst (v := 0) hx hb dL_sizeOf_1 (by decide) ?_
  refine lv_aload_n hx hb dL_sizeOf_2 rfl (lv_at hl 0 rfl) ?_
  refine lv_iload_n hx hb dL_sizeOf_3 rfl (lv_at hl 1 rfl) ?_
  refine ff_calli (vx_runV (As := [.int t]) (rest := [.int 0, .ref bo]) ⟨hx, hb, hml, hown, hts⟩ (k_X1_sizeOf l D ax ar ad cO H.size σ t hfl) (cwV 1 hts gL_sizeOf_X1_sizeOf rfl rfl rfl (by decide +kernel) ⟨Nat.le_of_ble_eq_true rfl, Nat.le_of_ble_eq_true rfl⟩) (xPreV xE_ok hE hKc hA (P_l hP) (D_l hD) hS (q0 := 0) (ci := 1) rfl rfl rfl) rfl rfl hl.1 rfl (lv_room (Nat.le_of_ble_eq_true rfl)) dL_sizeOf_4 ⟨Nat.le_of_ble_eq_true rfl, Nat.le_of_ble_eq_true rfl⟩) hP hD hS hA (fun En ce q9 H locs hxc hP hS hq9 hv9 hcl9 => ?_) (fun r u H locs hp hP hD hS => ?_)
  · obtain ⟨rfl, hc9⟩ := hxc
    refine vx_catch (name := xIO) hown [] ⟨0, 9, 12, 13⟩ [] (by rw [htab]; rfl) (fun z hz => nomatch hz) (by decide) (by decide) (hts (.classLink RL 13 "java/lang/IndexOutOfBoundsException") (List.mem_of_getElem? (i := 1) rfl)) (va_Nw.use rfl (hE.1.2.2.2.1 xIO (List.mem_of_getElem? (i := 0) rfl))) hq9 hv9 hcl9 ?_
    refine lv_astore_n (lv' := (3, .ref q9) :: [(0, .ref ax), (1, .int t), (2, .ref bo)]) hx hb dL_sizeOf_12 rfl hl (by decide) rfl (fun ls hl => ?_)
    refine lv_iconst (v := 1) hx hb dL_sizeOf_13 (by decide) ?_
    exact x_iret hx hb hr hlocks hK ((σ, v) : St × Int64) hP hD hS (Or.inr ⟨rfl, hc9, rfl⟩) dL_sizeOf_14
  · refine lv_i2l hx hb dL_sizeOf_7 rfl ?_
    refine va_last hx hb hK hP hD hS (cW ax ar ad cO u).length 1 (get_app _ _) rfl (by unfold vp_in; decide) dL_sizeOf_8 (fun H locs hP hD hS => ?_)
    rw [set_app] at hP hD
    have hP := o_P (x := r.toInt64) hP rfl
    have hD := o_D (x := r.toInt64) hD
    refine lv_goto (tgt := 15) hx hb dL_sizeOf_9 (by decide) ?_
    refine lv_iconst (v := 0) hx hb dL_sizeOf_15 (by decide) ?_
    exact x_iret hx hb hr hlocks hK ((u, r.toInt64) : St × Int64) hP hD hS (Or.inl ⟨rfl, r, hp, rfl⟩) dL_sizeOf_16

set_option maxHeartbeats 4000000 in
set_option maxRecDepth 100000 in
theorem k_L_frequencyOf (l : Launch) (D : va_G) (ax ar : Nat) (ad : Nat → Nat) (cO : ClassId) (bo : Nat) (cL : ClassId) (sz : Nat) (σ : St) (v : Int64) (t : Int32) (hfl : l.stackTraces = false) : Met l yL_frequencyOf wsL_frequencyOf ({ frames := 9, cells := 1, slots := 6, locals := 260 } : Room) (va_Pc [.ref ax, .int t, .ref bo] (xPre D (tL cO cL) xE (wL ax ar ad cO bo cL) (σ, v) sz)) (va_Qi (fun (r : Int32) (u : St × Int64) => (r = 0 ∧ (∃ r0 : Int32, (isT t = true ∧ (∀ k, k < 32 → t = nI k → r0 = if gB σ 1 k then gS σ 4 k else 0) ∧ u.1 = σ) ∧ u.2 = r0.toInt64)) ∨ (r = 1 ∧ (isT t = false) ∧ u = (σ, v))) (xB D (tL cO cL) (wL ax ar ad cO bo cL) (va_A (wL ax ar ad cO bo cL (σ, v)) sz)) (va_A (wL ax ar ad cO bo cL (σ, v)) sz)) 1 6 (va_A (wL ax ar ad cO bo cL (σ, v)) sz) := by
  refine xwOpen (w := (wL ax ar ad cO bo cL)) (σ := (σ, v)) (cc := cL_frequencyOf) (maxL := 4) (ret := some .int) (hh := [(0, 9, 12, 13)]) (QQ := fun A => va_Qi (fun (r : Int32) (u : St × Int64) => (r = 0 ∧ (∃ r0 : Int32, (isT t = true ∧ (∀ k, k < 32 → t = nI k → r0 = if gB σ 1 k then gS σ 4 k else 0) ∧ u.1 = σ) ∧ u.2 = r0.toInt64)) ∨ (r = 1 ∧ (isT t = false) ∧ u = (σ, v))) (xB D (tL cO cL) (wL ax ar ad cO bo cL) A) A) (by decide) rfl (Nat.le_of_ble_eq_true rfl) ?_
  intro p e s m below meth c A hx hb hr hml hown hts hlocks htab hK hE hA hP hD hS ls hl
  have hl : lv_has ls 4 [(0, .ref ax), (1, .int t), (2, .ref bo)] := hl
  have hown : s.vm.findClass RL = some m.cls := hown
  have hKc : va_K D vwCl (cT cO) s := hK.sub [0] rfl
  generalize hH : s.heap = H at hP
  have hS : va_S A s.heap H [] := by rw [← hH]; exact va_S.rf
  generalize hlo : ([] : List Loc) = locs at hS
  refine lv_aload_n hx hb dL_frequencyOf_0 rfl (lv_at hl 2 rfl) ?_
  refine lv_iconst (v := 0) hx hb dL_frequencyOf_1 (by decide) ?_
  refine lv_aload_n hx hb dL_frequencyOf_2 rfl (lv_at hl 0 rfl) ?_
  refine lv_iload_n hx hb dL_frequencyOf_3 rfl (lv_at hl 1 rfl) ?_
  refine ff_calli (vx_runV (As := [.int t]) (rest := [.int 0, .ref bo]) ⟨hx, hb, hml, hown, hts⟩ (k_X1_frequencyOf l D ax ar ad cO H.size σ t hfl) (cwV 1 hts gL_frequencyOf_X1_frequencyOf rfl rfl rfl (by decide +kernel) ⟨Nat.le_of_ble_eq_true rfl, Nat.le_of_ble_eq_true rfl⟩) (xPreV xE_ok hE hKc hA (P_l hP) (D_l hD) hS (q0 := 0) (ci := 1) rfl rfl rfl) rfl rfl hl.1 rfl (lv_room (Nat.le_of_ble_eq_true rfl)) dL_frequencyOf_4 ⟨Nat.le_of_ble_eq_true rfl, Nat.le_of_ble_eq_true rfl⟩) hP hD hS hA (fun En ce q9 H locs hxc hP hS hq9 hv9 hcl9 => ?_) (fun r u H locs hp hP hD hS => ?_)
  · obtain ⟨rfl, hc9⟩ := hxc
    refine vx_catch (name := xIO) hown [] ⟨0, 9, 12, 13⟩ [] (by rw [htab]; rfl) (fun z hz => nomatch hz) (by decide) (by decide) (hts (.classLink RL 13 "java/lang/IndexOutOfBoundsException") (List.mem_of_getElem? (i := 1) rfl)) (va_Nw.use rfl (hE.1.2.2.2.1 xIO (List.mem_of_getElem? (i := 0) rfl))) hq9 hv9 hcl9 ?_
    refine lv_astore_n (lv' := (3, .ref q9) :: [(0, .ref ax), (1, .int t), (2, .ref bo)]) hx hb dL_frequencyOf_12 rfl hl (by decide) rfl (fun ls hl => ?_)
    refine lv_iconst (v := 1) hx hb dL_frequencyOf_13 (by decide) ?_
    exact x_iret hx hb hr hlocks hK ((σ, v) : St × Int64) hP hD hS (Or.inr ⟨rfl, hc9, rfl⟩) dL_frequencyOf_14
  · refine lv_i2l hx hb dL_frequencyOf_7 rfl ?_
    refine va_last hx hb hK hP hD hS (cW ax ar ad cO u).length 1 (get_app _ _) rfl (by unfold vp_in; decide) dL_frequencyOf_8 (fun H locs hP hD hS => ?_)
    rw [set_app] at hP hD
    have hP := o_P (x := r.toInt64) hP rfl
    have hD := o_D (x := r.toInt64) hD
    refine lv_goto (tgt := 15) hx hb dL_frequencyOf_9 (by decide) ?_
    refine lv_iconst (v := 0) hx hb dL_frequencyOf_15 (by decide) ?_
    exact x_iret hx hb hr hlocks hK ((u, r.toInt64) : St × Int64) hP hD hS (Or.inl ⟨rfl, r, hp, rfl⟩) dL_frequencyOf_16

set_option maxHeartbeats 4000000 in
set_option maxRecDepth 100000 in
theorem k_L_worthOf (l : Launch) (D : va_G) (ax ar : Nat) (ad : Nat → Nat) (cO : ClassId) (bo : Nat) (cL : ClassId) (sz : Nat) (σ : St) (v : Int64) (t : Int32) (hfl : l.stackTraces = false) : Met l yL_worthOf wsL_worthOf ({ frames := 9, cells := 1, slots := 6, locals := 260 } : Room) (va_Pc [.ref ax, .int t, .ref bo] (xPre D (tL cO cL) xE (wL ax ar ad cO bo cL) (σ, v) sz)) (va_Qi (fun (r : Int32) (u : St × Int64) => (r = 0 ∧ (∃ r0 : Int64, (isT t = true ∧ (∀ k, k < 32 → t = nI k → r0 = if gB σ 1 k then gT σ 6 k else -1) ∧ u.1 = σ) ∧ u.2 = r0)) ∨ (r = 1 ∧ (isT t = false) ∧ u = (σ, v))) (xB D (tL cO cL) (wL ax ar ad cO bo cL) (va_A (wL ax ar ad cO bo cL (σ, v)) sz)) (va_A (wL ax ar ad cO bo cL (σ, v)) sz)) 1 6 (va_A (wL ax ar ad cO bo cL (σ, v)) sz) := by
  refine xwOpen (w := (wL ax ar ad cO bo cL)) (σ := (σ, v)) (cc := cL_worthOf) (maxL := 4) (ret := some .int) (hh := [(0, 8, 11, 13)]) (QQ := fun A => va_Qi (fun (r : Int32) (u : St × Int64) => (r = 0 ∧ (∃ r0 : Int64, (isT t = true ∧ (∀ k, k < 32 → t = nI k → r0 = if gB σ 1 k then gT σ 6 k else -1) ∧ u.1 = σ) ∧ u.2 = r0)) ∨ (r = 1 ∧ (isT t = false) ∧ u = (σ, v))) (xB D (tL cO cL) (wL ax ar ad cO bo cL) A) A) (by decide) rfl (Nat.le_of_ble_eq_true rfl) ?_
  intro p e s m below meth c A hx hb hr hml hown hts hlocks htab hK hE hA hP hD hS ls hl
  have hl : lv_has ls 4 [(0, .ref ax), (1, .int t), (2, .ref bo)] := hl
  have hown : s.vm.findClass RL = some m.cls := hown
  have hKc : va_K D vwCl (cT cO) s := hK.sub [0] rfl
  generalize hH : s.heap = H at hP
  have hS : va_S A s.heap H [] := by rw [← hH]; exact va_S.rf
  generalize hlo : ([] : List Loc) = locs at hS
  refine lv_aload_n hx hb dL_worthOf_0 rfl (lv_at hl 2 rfl) ?_
  refine lv_iconst (v := 0) hx hb dL_worthOf_1 (by decide) ?_
  refine lv_aload_n hx hb dL_worthOf_2 rfl (lv_at hl 0 rfl) ?_
  refine lv_iload_n hx hb dL_worthOf_3 rfl (lv_at hl 1 rfl) ?_
  refine ff_calll (vx_runV (As := [.int t]) (rest := [.int 0, .ref bo]) ⟨hx, hb, hml, hown, hts⟩ (k_X1_worthOf l D ax ar ad cO H.size σ t hfl) (cwV 1 hts gL_worthOf_X1_worthOf rfl rfl rfl (by decide +kernel) ⟨Nat.le_of_ble_eq_true rfl, Nat.le_of_ble_eq_true rfl⟩) (xPreV xE_ok hE hKc hA (P_l hP) (D_l hD) hS (q0 := 0) (ci := 1) rfl rfl rfl) rfl rfl hl.1 rfl (lv_room (Nat.le_of_ble_eq_true rfl)) dL_worthOf_4 ⟨Nat.le_of_ble_eq_true rfl, Nat.le_of_ble_eq_true rfl⟩) hP hD hS hA (fun En ce q9 H locs hxc hP hS hq9 hv9 hcl9 => ?_) (fun r u H locs hp hP hD hS => ?_)
  · obtain ⟨rfl, hc9⟩ := hxc
    refine vx_catch (name := xIO) hown [] ⟨0, 8, 11, 13⟩ [] (by rw [htab]; rfl) (fun z hz => nomatch hz) (by decide) (by decide) (hts (.classLink RL 13 "java/lang/IndexOutOfBoundsException") (List.mem_of_getElem? (i := 1) rfl)) (va_Nw.use rfl (hE.1.2.2.2.1 xIO (List.mem_of_getElem? (i := 0) rfl))) hq9 hv9 hcl9 ?_
    refine lv_astore_n (lv' := (3, .ref q9) :: [(0, .ref ax), (1, .int t), (2, .ref bo)]) hx hb dL_worthOf_11 rfl hl (by decide) rfl (fun ls hl => ?_)
    refine lv_iconst (v := 1) hx hb dL_worthOf_12 (by decide) ?_
    exact x_iret hx hb hr hlocks hK ((σ, v) : St × Int64) hP hD hS (Or.inr ⟨rfl, hc9, rfl⟩) dL_worthOf_13
  · refine va_last hx hb hK hP hD hS (cW ax ar ad cO u).length 1 (get_app _ _) rfl (by unfold vp_in; decide) dL_worthOf_7 (fun H locs hP hD hS => ?_)
    rw [set_app] at hP hD
    have hP := o_P (x := r) hP rfl
    have hD := o_D (x := r) hD
    refine lv_goto (tgt := 14) hx hb dL_worthOf_8 (by decide) ?_
    refine lv_iconst (v := 0) hx hb dL_worthOf_14 (by decide) ?_
    exact x_iret hx hb hr hlocks hK ((u, r) : St × Int64) hP hD hS (Or.inl ⟨rfl, r, hp, rfl⟩) dL_worthOf_15

set_option maxHeartbeats 4000000 in
set_option maxRecDepth 100000 in
theorem k_L_endOf (l : Launch) (D : va_G) (ax ar : Nat) (ad : Nat → Nat) (cO : ClassId) (bo : Nat) (cL : ClassId) (sz : Nat) (σ : St) (v : Int64) (t : Int32) (hfl : l.stackTraces = false) : Met l yL_endOf wsL_endOf ({ frames := 9, cells := 1, slots := 6, locals := 260 } : Room) (va_Pc [.ref ax, .int t, .ref bo] (xPre D (tL cO cL) xE (wL ax ar ad cO bo cL) (σ, v) sz)) (va_Qi (fun (r : Int32) (u : St × Int64) => (r = 0 ∧ (∃ r0 : Int32, (isT t = true ∧ (∀ k, k < 32 → t = nI k → r0 = if gB σ 1 k then gS σ 5 k else -1) ∧ u.1 = σ) ∧ u.2 = r0.toInt64)) ∨ (r = 1 ∧ (isT t = false) ∧ u = (σ, v))) (xB D (tL cO cL) (wL ax ar ad cO bo cL) (va_A (wL ax ar ad cO bo cL (σ, v)) sz)) (va_A (wL ax ar ad cO bo cL (σ, v)) sz)) 1 6 (va_A (wL ax ar ad cO bo cL (σ, v)) sz) := by
  refine xwOpen (w := (wL ax ar ad cO bo cL)) (σ := (σ, v)) (cc := cL_endOf) (maxL := 4) (ret := some .int) (hh := [(0, 9, 12, 13)]) (QQ := fun A => va_Qi (fun (r : Int32) (u : St × Int64) => (r = 0 ∧ (∃ r0 : Int32, (isT t = true ∧ (∀ k, k < 32 → t = nI k → r0 = if gB σ 1 k then gS σ 5 k else -1) ∧ u.1 = σ) ∧ u.2 = r0.toInt64)) ∨ (r = 1 ∧ (isT t = false) ∧ u = (σ, v))) (xB D (tL cO cL) (wL ax ar ad cO bo cL) A) A) (by decide) rfl (Nat.le_of_ble_eq_true rfl) ?_
  intro p e s m below meth c A hx hb hr hml hown hts hlocks htab hK hE hA hP hD hS ls hl
  have hl : lv_has ls 4 [(0, .ref ax), (1, .int t), (2, .ref bo)] := hl
  have hown : s.vm.findClass RL = some m.cls := hown
  have hKc : va_K D vwCl (cT cO) s := hK.sub [0] rfl
  generalize hH : s.heap = H at hP
  have hS : va_S A s.heap H [] := by rw [← hH]; exact va_S.rf
  generalize hlo : ([] : List Loc) = locs at hS
  refine lv_aload_n hx hb dL_endOf_0 rfl (lv_at hl 2 rfl) ?_
  refine lv_iconst (v := 0) hx hb dL_endOf_1 (by decide) ?_
  refine lv_aload_n hx hb dL_endOf_2 rfl (lv_at hl 0 rfl) ?_
  refine lv_iload_n hx hb dL_endOf_3 rfl (lv_at hl 1 rfl) ?_
  refine ff_calli (vx_runV (As := [.int t]) (rest := [.int 0, .ref bo]) ⟨hx, hb, hml, hown, hts⟩ (k_X1_endOf l D ax ar ad cO H.size σ t hfl) (cwV 1 hts gL_endOf_X1_endOf rfl rfl rfl (by decide +kernel) ⟨Nat.le_of_ble_eq_true rfl, Nat.le_of_ble_eq_true rfl⟩) (xPreV xE_ok hE hKc hA (P_l hP) (D_l hD) hS (q0 := 0) (ci := 1) rfl rfl rfl) rfl rfl hl.1 rfl (lv_room (Nat.le_of_ble_eq_true rfl)) dL_endOf_4 ⟨Nat.le_of_ble_eq_true rfl, Nat.le_of_ble_eq_true rfl⟩) hP hD hS hA (fun En ce q9 H locs hxc hP hS hq9 hv9 hcl9 => ?_) (fun r u H locs hp hP hD hS => ?_)
  · obtain ⟨rfl, hc9⟩ := hxc
    refine vx_catch (name := xIO) hown [] ⟨0, 9, 12, 13⟩ [] (by rw [htab]; rfl) (fun z hz => nomatch hz) (by decide) (by decide) (hts (.classLink RL 13 "java/lang/IndexOutOfBoundsException") (List.mem_of_getElem? (i := 1) rfl)) (va_Nw.use rfl (hE.1.2.2.2.1 xIO (List.mem_of_getElem? (i := 0) rfl))) hq9 hv9 hcl9 ?_
    refine lv_astore_n (lv' := (3, .ref q9) :: [(0, .ref ax), (1, .int t), (2, .ref bo)]) hx hb dL_endOf_12 rfl hl (by decide) rfl (fun ls hl => ?_)
    refine lv_iconst (v := 1) hx hb dL_endOf_13 (by decide) ?_
    exact x_iret hx hb hr hlocks hK ((σ, v) : St × Int64) hP hD hS (Or.inr ⟨rfl, hc9, rfl⟩) dL_endOf_14
  · refine lv_i2l hx hb dL_endOf_7 rfl ?_
    refine va_last hx hb hK hP hD hS (cW ax ar ad cO u).length 1 (get_app _ _) rfl (by unfold vp_in; decide) dL_endOf_8 (fun H locs hP hD hS => ?_)
    rw [set_app] at hP hD
    have hP := o_P (x := r.toInt64) hP rfl
    have hD := o_D (x := r.toInt64) hD
    refine lv_goto (tgt := 15) hx hb dL_endOf_9 (by decide) ?_
    refine lv_iconst (v := 0) hx hb dL_endOf_15 (by decide) ?_
    exact x_iret hx hb hr hlocks hK ((u, r.toInt64) : St × Int64) hP hD hS (Or.inl ⟨rfl, r, hp, rfl⟩) dL_endOf_16

set_option maxHeartbeats 4000000 in
set_option maxRecDepth 100000 in
theorem k_L_leaving (l : Launch) (D : va_G) (ax ar : Nat) (ad : Nat → Nat) (cO : ClassId) (bo : Nat) (cL : ClassId) (sz : Nat) (σ : St) (v : Int64) (t : Int32) (N : Nat) (hN : N < 64) (h1 : ∀ j, j < N → nI j < t ∧ nth σ j ≠ none) (h2 : (¬ nI N < t ∨ nth σ N = none) ∧ (¬ t < 32 → nth σ N = none)) (hfl : l.stackTraces = false) : Met l yL_leaving wsL_leaving ({ frames := 9, cells := 1, slots := 6, locals := 260 } : Room) (va_Pc [.ref ax, .int t, .ref bo] (xPre D (tL cO cL) xE (wL ax ar ad cO bo cL) (σ, v) sz)) (va_Qi (fun (r : Int32) (u : St × Int64) => (r = 0 ∧ (∃ r0 : Int32, (¬ t < 0 ∧ (∃ k, nth σ N = some k ∧ r0 = gS σ 0 k) ∧ u.1 = σ) ∧ u.2 = r0.toInt64)) ∨ (r = 1 ∧ ((t < 0 ∨ nth σ N = none)) ∧ u = (σ, v))) (xB D (tL cO cL) (wL ax ar ad cO bo cL) (va_A (wL ax ar ad cO bo cL (σ, v)) sz)) (va_A (wL ax ar ad cO bo cL (σ, v)) sz)) 1 6 (va_A (wL ax ar ad cO bo cL (σ, v)) sz) := by
  refine xwOpen (w := (wL ax ar ad cO bo cL)) (σ := (σ, v)) (cc := cL_leaving) (maxL := 4) (ret := some .int) (hh := [(0, 9, 12, 13)]) (QQ := fun A => va_Qi (fun (r : Int32) (u : St × Int64) => (r = 0 ∧ (∃ r0 : Int32, (¬ t < 0 ∧ (∃ k, nth σ N = some k ∧ r0 = gS σ 0 k) ∧ u.1 = σ) ∧ u.2 = r0.toInt64)) ∨ (r = 1 ∧ ((t < 0 ∨ nth σ N = none)) ∧ u = (σ, v))) (xB D (tL cO cL) (wL ax ar ad cO bo cL) A) A) (by decide) rfl (Nat.le_of_ble_eq_true rfl) ?_
  intro p e s m below meth c A hx hb hr hml hown hts hlocks htab hK hE hA hP hD hS ls hl
  have hl : lv_has ls 4 [(0, .ref ax), (1, .int t), (2, .ref bo)] := hl
  have hown : s.vm.findClass RL = some m.cls := hown
  have hKc : va_K D vwCl (cT cO) s := hK.sub [0] rfl
  generalize hH : s.heap = H at hP
  have hS : va_S A s.heap H [] := by rw [← hH]; exact va_S.rf
  generalize hlo : ([] : List Loc) = locs at hS
  refine lv_aload_n hx hb dL_leaving_0 rfl (lv_at hl 2 rfl) ?_
  refine lv_iconst (v := 0) hx hb dL_leaving_1 (by decide) ?_
  refine lv_aload_n hx hb dL_leaving_2 rfl (lv_at hl 0 rfl) ?_
  refine lv_iload_n hx hb dL_leaving_3 rfl (lv_at hl 1 rfl) ?_
  refine ff_calli (vx_runV (As := [.int t]) (rest := [.int 0, .ref bo]) ⟨hx, hb, hml, hown, hts⟩ (k_X1_leaving l D ax ar ad cO H.size σ t N hN h1 h2 hfl) (cwV 1 hts gL_leaving_X1_leaving rfl rfl rfl (by decide +kernel) ⟨Nat.le_of_ble_eq_true rfl, Nat.le_of_ble_eq_true rfl⟩) (xPreV xE_ok hE hKc hA (P_l hP) (D_l hD) hS (q0 := 0) (ci := 1) rfl rfl rfl) rfl rfl hl.1 rfl (lv_room (Nat.le_of_ble_eq_true rfl)) dL_leaving_4 ⟨Nat.le_of_ble_eq_true rfl, Nat.le_of_ble_eq_true rfl⟩) hP hD hS hA (fun En ce q9 H locs hxc hP hS hq9 hv9 hcl9 => ?_) (fun r u H locs hp hP hD hS => ?_)
  · obtain ⟨rfl, hc9⟩ := hxc
    refine vx_catch (name := xIO) hown [] ⟨0, 9, 12, 13⟩ [] (by rw [htab]; rfl) (fun z hz => nomatch hz) (by decide) (by decide) (hts (.classLink RL 13 "java/lang/IndexOutOfBoundsException") (List.mem_of_getElem? (i := 1) rfl)) (va_Nw.use rfl (hE.1.2.2.2.1 xIO (List.mem_of_getElem? (i := 0) rfl))) hq9 hv9 hcl9 ?_
    refine lv_astore_n (lv' := (3, .ref q9) :: [(0, .ref ax), (1, .int t), (2, .ref bo)]) hx hb dL_leaving_12 rfl hl (by decide) rfl (fun ls hl => ?_)
    refine lv_iconst (v := 1) hx hb dL_leaving_13 (by decide) ?_
    exact x_iret hx hb hr hlocks hK ((σ, v) : St × Int64) hP hD hS (Or.inr ⟨rfl, hc9, rfl⟩) dL_leaving_14
  · refine lv_i2l hx hb dL_leaving_7 rfl ?_
    refine va_last hx hb hK hP hD hS (cW ax ar ad cO u).length 1 (get_app _ _) rfl (by unfold vp_in; decide) dL_leaving_8 (fun H locs hP hD hS => ?_)
    rw [set_app] at hP hD
    have hP := o_P (x := r.toInt64) hP rfl
    have hD := o_D (x := r.toInt64) hD
    refine lv_goto (tgt := 15) hx hb dL_leaving_9 (by decide) ?_
    refine lv_iconst (v := 0) hx hb dL_leaving_15 (by decide) ?_
    exact x_iret hx hb hr hlocks hK ((u, r.toInt64) : St × Int64) hP hD hS (Or.inl ⟨rfl, r, hp, rfl⟩) dL_leaving_16

set_option maxHeartbeats 4000000 in
set_option maxRecDepth 100000 in
theorem k_L_placeOf (l : Launch) (D : va_G) (ax ar : Nat) (ad : Nat → Nat) (cO : ClassId) (bo : Nat) (cL : ClassId) (sz : Nat) (σ : St) (v : Int64) (t : Int32) (hfl : l.stackTraces = false) : Met l yL_placeOf wsL_placeOf ({ frames := 9, cells := 1, slots := 6, locals := 260 } : Room) (va_Pc [.ref ax, .int t, .ref bo] (xPre D (tL cO cL) xE (wL ax ar ad cO bo cL) (σ, v) sz)) (va_Qi (fun (r : Int32) (u : St × Int64) => (r = 0 ∧ (∃ r0 : Int32, (isT t = true ∧ (∀ k9, k9 < 32 → t = nI k9 → r0 = cPlace σ k9) ∧ u.1 = σ) ∧ u.2 = r0.toInt64)) ∨ (r = 1 ∧ (isT t = false) ∧ u = (σ, v))) (xB D (tL cO cL) (wL ax ar ad cO bo cL) (va_A (wL ax ar ad cO bo cL (σ, v)) sz)) (va_A (wL ax ar ad cO bo cL (σ, v)) sz)) 1 6 (va_A (wL ax ar ad cO bo cL (σ, v)) sz) := by
  refine xwOpen (w := (wL ax ar ad cO bo cL)) (σ := (σ, v)) (cc := cL_placeOf) (maxL := 4) (ret := some .int) (hh := [(0, 9, 12, 13)]) (QQ := fun A => va_Qi (fun (r : Int32) (u : St × Int64) => (r = 0 ∧ (∃ r0 : Int32, (isT t = true ∧ (∀ k9, k9 < 32 → t = nI k9 → r0 = cPlace σ k9) ∧ u.1 = σ) ∧ u.2 = r0.toInt64)) ∨ (r = 1 ∧ (isT t = false) ∧ u = (σ, v))) (xB D (tL cO cL) (wL ax ar ad cO bo cL) A) A) (by decide) rfl (Nat.le_of_ble_eq_true rfl) ?_
  intro p e s m below meth c A hx hb hr hml hown hts hlocks htab hK hE hA hP hD hS ls hl
  have hl : lv_has ls 4 [(0, .ref ax), (1, .int t), (2, .ref bo)] := hl
  have hown : s.vm.findClass RL = some m.cls := hown
  have hKc : va_K D vwCl (cT cO) s := hK.sub [0] rfl
  generalize hH : s.heap = H at hP
  have hS : va_S A s.heap H [] := by rw [← hH]; exact va_S.rf
  generalize hlo : ([] : List Loc) = locs at hS
  refine lv_aload_n hx hb dL_placeOf_0 rfl (lv_at hl 2 rfl) ?_
  refine lv_iconst (v := 0) hx hb dL_placeOf_1 (by decide) ?_
  refine lv_aload_n hx hb dL_placeOf_2 rfl (lv_at hl 0 rfl) ?_
  refine lv_iload_n hx hb dL_placeOf_3 rfl (lv_at hl 1 rfl) ?_
  refine ff_calli (vx_runV (As := [.int t]) (rest := [.int 0, .ref bo]) ⟨hx, hb, hml, hown, hts⟩ (k_X1_placeOf l D ax ar ad cO H.size σ t hfl) (cwV 1 hts gL_placeOf_X1_placeOf rfl rfl rfl (by decide +kernel) ⟨Nat.le_of_ble_eq_true rfl, Nat.le_of_ble_eq_true rfl⟩) (xPreV xE_ok hE hKc hA (P_l hP) (D_l hD) hS (q0 := 0) (ci := 1) rfl rfl rfl) rfl rfl hl.1 rfl (lv_room (Nat.le_of_ble_eq_true rfl)) dL_placeOf_4 ⟨Nat.le_of_ble_eq_true rfl, Nat.le_of_ble_eq_true rfl⟩) hP hD hS hA (fun En ce q9 H locs hxc hP hS hq9 hv9 hcl9 => ?_) (fun r u H locs hp hP hD hS => ?_)
  · obtain ⟨rfl, hc9⟩ := hxc
    refine vx_catch (name := xIO) hown [] ⟨0, 9, 12, 13⟩ [] (by rw [htab]; rfl) (fun z hz => nomatch hz) (by decide) (by decide) (hts (.classLink RL 13 "java/lang/IndexOutOfBoundsException") (List.mem_of_getElem? (i := 1) rfl)) (va_Nw.use rfl (hE.1.2.2.2.1 xIO (List.mem_of_getElem? (i := 0) rfl))) hq9 hv9 hcl9 ?_
    refine lv_astore_n (lv' := (3, .ref q9) :: [(0, .ref ax), (1, .int t), (2, .ref bo)]) hx hb dL_placeOf_12 rfl hl (by decide) rfl (fun ls hl => ?_)
    refine lv_iconst (v := 1) hx hb dL_placeOf_13 (by decide) ?_
    exact x_iret hx hb hr hlocks hK ((σ, v) : St × Int64) hP hD hS (Or.inr ⟨rfl, hc9, rfl⟩) dL_placeOf_14
  · refine lv_i2l hx hb dL_placeOf_7 rfl ?_
    refine va_last hx hb hK hP hD hS (cW ax ar ad cO u).length 1 (get_app _ _) rfl (by unfold vp_in; decide) dL_placeOf_8 (fun H locs hP hD hS => ?_)
    rw [set_app] at hP hD
    have hP := o_P (x := r.toInt64) hP rfl
    have hD := o_D (x := r.toInt64) hD
    refine lv_goto (tgt := 15) hx hb dL_placeOf_9 (by decide) ?_
    refine lv_iconst (v := 0) hx hb dL_placeOf_15 (by decide) ?_
    exact x_iret hx hb hr hlocks hK ((u, r.toInt64) : St × Int64) hP hD hS (Or.inl ⟨rfl, r, hp, rfl⟩) dL_placeOf_16

set_option maxHeartbeats 4000000 in
set_option maxRecDepth 100000 in
theorem k_L_wouldLeave (l : Launch) (D : va_G) (ax ar : Nat) (ad : Nat → Nat) (cO : ClassId) (bo : Nat) (cL : ClassId) (sz : Nat) (σ : St) (v : Int64) (t : Int32) (hfl : l.stackTraces = false) : Met l yL_wouldLeave wsL_wouldLeave ({ frames := 9, cells := 1, slots := 6, locals := 260 } : Room) (va_Pc [.ref ax, .int t, .ref bo] (xPre D (tL cO cL) xE (wL ax ar ad cO bo cL) (σ, v) sz)) (va_Qi (fun (r : Int32) (u : St × Int64) => (r = 0 ∧ (∃ r0 : Int32, (inR t 1 1000 = true ∧ r0 = cWould σ t ∧ u.1 = σ) ∧ u.2 = r0.toInt64)) ∨ (r = 1 ∧ (inR t 1 1000 = false) ∧ u = (σ, v))) (xB D (tL cO cL) (wL ax ar ad cO bo cL) (va_A (wL ax ar ad cO bo cL (σ, v)) sz)) (va_A (wL ax ar ad cO bo cL (σ, v)) sz)) 1 6 (va_A (wL ax ar ad cO bo cL (σ, v)) sz) := by
  refine xwOpen (w := (wL ax ar ad cO bo cL)) (σ := (σ, v)) (cc := cL_wouldLeave) (maxL := 4) (ret := some .int) (hh := [(0, 9, 12, 15)]) (QQ := fun A => va_Qi (fun (r : Int32) (u : St × Int64) => (r = 0 ∧ (∃ r0 : Int32, (inR t 1 1000 = true ∧ r0 = cWould σ t ∧ u.1 = σ) ∧ u.2 = r0.toInt64)) ∨ (r = 1 ∧ (inR t 1 1000 = false) ∧ u = (σ, v))) (xB D (tL cO cL) (wL ax ar ad cO bo cL) A) A) (by decide) rfl (Nat.le_of_ble_eq_true rfl) ?_
  intro p e s m below meth c A hx hb hr hml hown hts hlocks htab hK hE hA hP hD hS ls hl
  have hl : lv_has ls 4 [(0, .ref ax), (1, .int t), (2, .ref bo)] := hl
  have hown : s.vm.findClass RL = some m.cls := hown
  have hKc : va_K D vwCl (cT cO) s := hK.sub [0] rfl
  generalize hH : s.heap = H at hP
  have hS : va_S A s.heap H [] := by rw [← hH]; exact va_S.rf
  generalize hlo : ([] : List Loc) = locs at hS
  refine lv_aload_n hx hb dL_wouldLeave_0 rfl (lv_at hl 2 rfl) ?_
  refine lv_iconst (v := 0) hx hb dL_wouldLeave_1 (by decide) ?_
  refine lv_aload_n hx hb dL_wouldLeave_2 rfl (lv_at hl 0 rfl) ?_
  refine lv_iload_n hx hb dL_wouldLeave_3 rfl (lv_at hl 1 rfl) ?_
  refine ff_calli (vx_runV (As := [.int t]) (rest := [.int 0, .ref bo]) ⟨hx, hb, hml, hown, hts⟩ (k_X1_wouldLeave l D ax ar ad cO H.size σ t hfl) (cwV 1 hts gL_wouldLeave_X1_wouldLeave rfl rfl rfl (by decide +kernel) ⟨Nat.le_of_ble_eq_true rfl, Nat.le_of_ble_eq_true rfl⟩) (xPreV xE_ok hE hKc hA (P_l hP) (D_l hD) hS (q0 := 0) (ci := 1) rfl rfl rfl) rfl rfl hl.1 rfl (lv_room (Nat.le_of_ble_eq_true rfl)) dL_wouldLeave_4 ⟨Nat.le_of_ble_eq_true rfl, Nat.le_of_ble_eq_true rfl⟩) hP hD hS hA (fun En ce q9 H locs hxc hP hS hq9 hv9 hcl9 => ?_) (fun r u H locs hp hP hD hS => ?_)
  · obtain ⟨rfl, hc9⟩ := hxc
    refine vx_catch (name := xIA) hown [] ⟨0, 9, 12, 15⟩ [] (by rw [htab]; rfl) (fun z hz => nomatch hz) (by decide) (by decide) (hts (.classLink RL 15 "java/lang/IllegalArgumentException") (List.mem_of_getElem? (i := 1) rfl)) (va_Nw.use rfl (hE.1.2.2.2.1 xIA (List.mem_of_getElem? (i := 1) rfl))) hq9 hv9 hcl9 ?_
    refine lv_astore_n (lv' := (3, .ref q9) :: [(0, .ref ax), (1, .int t), (2, .ref bo)]) hx hb dL_wouldLeave_12 rfl hl (by decide) rfl (fun ls hl => ?_)
    refine lv_iconst (v := 1) hx hb dL_wouldLeave_13 (by decide) ?_
    exact x_iret hx hb hr hlocks hK ((σ, v) : St × Int64) hP hD hS (Or.inr ⟨rfl, hc9, rfl⟩) dL_wouldLeave_14
  · refine lv_i2l hx hb dL_wouldLeave_7 rfl ?_
    refine va_last hx hb hK hP hD hS (cW ax ar ad cO u).length 1 (get_app _ _) rfl (by unfold vp_in; decide) dL_wouldLeave_8 (fun H locs hP hD hS => ?_)
    rw [set_app] at hP hD
    have hP := o_P (x := r.toInt64) hP rfl
    have hD := o_D (x := r.toInt64) hD
    refine lv_goto (tgt := 15) hx hb dL_wouldLeave_9 (by decide) ?_
    refine lv_iconst (v := 0) hx hb dL_wouldLeave_15 (by decide) ?_
    exact x_iret hx hb hr hlocks hK ((u, r.toInt64) : St × Int64) hP hD hS (Or.inl ⟨rfl, r, hp, rfl⟩) dL_wouldLeave_16
