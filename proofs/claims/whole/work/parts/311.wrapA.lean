set_option maxHeartbeats 4000000 in
set_option maxRecDepth 100000 in
theorem k_L_fetch (l : Launch) (D : va_G) (ax ar : Nat) (ad : Nat → Nat) (cO : ClassId) (bo : Nat) (cL : ClassId) (sz : Nat) (σ : St) (v : Int64) (t sz9 pr lf : Int32) (hfl : l.stackTraces = false) : Met l yL_fetch wsL_fetch ({ frames := 9, cells := 4, slots := 24, locals := 260 } : Room) (va_Pc [.ref ax, .int t, .int sz9, .int pr, .int lf, .ref bo] (xPre D (tL cO cL) xE (wL ax ar ad cO bo cL) (σ, v) sz)) (va_Qi (fun (r : Int32) (u : St × Int64) => (r = 0 ∧ (∃ r0 : Int32, (isT t = true ∧ (inR sz9 1 1000 && inR pr 0 1000 && inR lf 1 10000) = true ∧ (∀ k, k < 32 → t = nI k → r0 = (cFetch σ k sz9 pr lf).1 ∧ u.1 = (cFetch σ k sz9 pr lf).2)) ∧ u.2 = r0.toInt64)) ∨ (r = 1 ∧ (isT t = false) ∧ u = (σ, v)) ∨ (r = 2 ∧ (isT t = true ∧ (inR sz9 1 1000 && inR pr 0 1000 && inR lf 1 10000) = false) ∧ u = (σ, v))) (xB D (tL cO cL) (wL ax ar ad cO bo cL) (va_A (wL ax ar ad cO bo cL (σ, v)) sz)) (va_A (wL ax ar ad cO bo cL (σ, v)) sz)) 4 24 (va_A (wL ax ar ad cO bo cL (σ, v)) sz) := by
  refine xwOpen (w := (wL ax ar ad cO bo cL)) (σ := (σ, v)) (cc := cL_fetch) (maxL := 7) (ret := some .int) (hh := [(0, 14, 17, 13), (0, 14, 21, 15)]) (QQ := fun A => va_Qi (fun (r : Int32) (u : St × Int64) => (r = 0 ∧ (∃ r0 : Int32, (isT t = true ∧ (inR sz9 1 1000 && inR pr 0 1000 && inR lf 1 10000) = true ∧ (∀ k, k < 32 → t = nI k → r0 = (cFetch σ k sz9 pr lf).1 ∧ u.1 = (cFetch σ k sz9 pr lf).2)) ∧ u.2 = r0.toInt64)) ∨ (r = 1 ∧ (isT t = false) ∧ u = (σ, v)) ∨ (r = 2 ∧ (isT t = true ∧ (inR sz9 1 1000 && inR pr 0 1000 && inR lf 1 10000) = false) ∧ u = (σ, v))) (xB D (tL cO cL) (wL ax ar ad cO bo cL) A) A) (by decide) rfl (Nat.le_of_ble_eq_true rfl) ?_
  intro p e s m below meth c A hx hb hr hml hown hts hlocks htab hK hE hA hP hD hS ls hl
  have hl : lv_has ls 7 [(0, .ref ax), (1, .int t), (2, .int sz9), (3, .int pr), (4, .int lf), (5, .ref bo)] := hl
  have hown : s.vm.findClass RL = some m.cls := hown
  have hKc : va_K D vwCl (cT cO) s := hK.sub [0] rfl
  generalize hH : s.heap = H at hP
  have hS : va_S A s.heap H [] := by rw [← hH]; exact va_S.rf
  generalize hlo : ([] : List Loc) = locs at hS
  refine lv_aload hx hb dL_fetch_0 (lv_at hl 5 rfl) ?_
  refine lv_iconst (v := 0) hx hb dL_fetch_2 (by decide) ?_
  refine lv_aload_n hx hb dL_fetch_3 rfl (lv_at hl 0 rfl) ?_
  refine lv_iload_n hx hb dL_fetch_4 rfl (lv_at hl 1 rfl) ?_
  refine lv_iload_n hx hb dL_fetch_5 rfl (lv_at hl 2 rfl) ?_
  refine lv_iload_n hx hb dL_fetch_6 rfl (lv_at hl 3 rfl) ?_
  refine lv_iload hx hb dL_fetch_7 (lv_at hl 4 rfl) ?_
  refine ff_calli (vx_runV (As := [.int t, .int sz9, .int pr, .int lf]) (rest := [.int 0, .ref bo]) ⟨hx, hb, hml, hown, hts⟩ (k_X1_fetch l D ax ar ad cO H.size σ t sz9 pr lf hfl) (cwV 4 hts gL_fetch_X1_fetch rfl rfl rfl (by decide +kernel) ⟨Nat.le_of_ble_eq_true rfl, Nat.le_of_ble_eq_true rfl⟩) (xPreV xE_ok hE hKc hA (P_l hP) (D_l hD) hS (q0 := 0) (ci := 1) rfl rfl rfl) rfl rfl hl.1 rfl (lv_room (Nat.le_of_ble_eq_true rfl)) dL_fetch_9 ⟨Nat.le_of_ble_eq_true rfl, Nat.le_of_ble_eq_true rfl⟩) hP hD hS hA (fun En ce q9 H locs hxc hP hS hq9 hv9 hcl9 => ?_) (fun r u H locs hp hP hD hS => ?_)
  · rcases hxc with ⟨rfl, hc9⟩ | ⟨rfl, hc9⟩
    · refine vx_catch (name := xIO) hown [] ⟨0, 14, 17, 13⟩ [⟨0, 14, 21, 15⟩] (by rw [htab]; rfl) (fun z hz => nomatch hz) (by decide) (by decide) (hts (.classLink RL 13 "java/lang/IndexOutOfBoundsException") (List.mem_of_getElem? (i := 1) rfl)) (va_Nw.use rfl (hE.1.2.2.2.1 xIO (List.mem_of_getElem? (i := 0) rfl))) hq9 hv9 hcl9 ?_
      refine lv_astore (lv' := (6, .ref q9) :: [(0, .ref ax), (1, .int t), (2, .int sz9), (3, .int pr), (4, .int lf), (5, .ref bo)]) hx hb dL_fetch_17 hl (by decide) rfl (fun ls hl => ?_)
      refine lv_iconst (v := 1) hx hb dL_fetch_19 (by decide) ?_
      exact x_iret hx hb hr hlocks hK ((σ, v) : St × Int64) hP hD hS (Or.inr (Or.inl ⟨rfl, hc9, rfl⟩)) dL_fetch_20
    · refine vx_catch (name := xIA) hown [⟨0, 14, 17, 13⟩] ⟨0, 14, 21, 15⟩ [] (by rw [htab]; rfl) (fun z hz => by rw [List.mem_singleton.mp hz]; exact Or.inr ⟨by decide, xIO, hts (.classLink RL 13 "java/lang/IndexOutOfBoundsException") (List.mem_of_getElem? (i := 1) rfl), hE.1.2.2.2.2 (xIA, xIO) (List.mem_of_getElem? (i := 0) rfl)⟩) (by decide) (by decide) (hts (.classLink RL 15 "java/lang/IllegalArgumentException") (List.mem_of_getElem? (i := 2) rfl)) (va_Nw.use rfl (hE.1.2.2.2.1 xIA (List.mem_of_getElem? (i := 1) rfl))) hq9 hv9 hcl9 ?_
      refine lv_astore (lv' := (6, .ref q9) :: [(0, .ref ax), (1, .int t), (2, .int sz9), (3, .int pr), (4, .int lf), (5, .ref bo)]) hx hb dL_fetch_21 hl (by decide) rfl (fun ls hl => ?_)
      refine lv_iconst (v := 2) hx hb dL_fetch_23 (by decide) ?_
      exact x_iret hx hb hr hlocks hK ((σ, v) : St × Int64) hP hD hS (Or.inr (Or.inr ⟨rfl, hc9, rfl⟩)) dL_fetch_24
  · refine lv_i2l hx hb dL_fetch_12 rfl ?_
    refine va_last hx hb hK hP hD hS (cW ax ar ad cO u).length 1 (get_app _ _) rfl (by unfold vp_in; decide) dL_fetch_13 (fun H locs hP hD hS => ?_)
    rw [set_app] at hP hD
    have hP := o_P (x := r.toInt64) hP rfl
    have hD := o_D (x := r.toInt64) hD
    refine lv_goto (tgt := 25) hx hb dL_fetch_14 (by decide) ?_
    refine lv_iconst (v := 0) hx hb dL_fetch_25 (by decide) ?_
    exact x_iret hx hb hr hlocks hK ((u, r.toInt64) : St × Int64) hP hD hS (Or.inl ⟨rfl, r, hp, rfl⟩) dL_fetch_26

set_option maxHeartbeats 4000000 in
set_option maxRecDepth 100000 in
theorem k_L_pass (l : Launch) (D : va_G) (ax ar : Nat) (ad : Nat → Nat) (cO : ClassId) (bo : Nat) (cL : ClassId) (sz : Nat) (σ : St) (v : Int64) (t : Int32) (hfl : l.stackTraces = false) : Met l yL_pass wsL_pass ({ frames := 9, cells := 1, slots := 6, locals := 260 } : Room) (va_Pc [.ref ax, .int t, .ref bo] (xPre D (tL cO cL) xE (wL ax ar ad cO bo cL) (σ, v) sz)) (va_Qi (fun (r : Int32) (u : St × Int64) => (r = 0 ∧ (∃ r0 : Int32, (inR t 1 10000 = true ∧ r0 = gI σ 1 + t ∧ u.1 = uI σ 1 (gI σ 1 + t)) ∧ u.2 = r0.toInt64)) ∨ (r = 1 ∧ (inR t 1 10000 = false) ∧ u = (σ, v))) (xB D (tL cO cL) (wL ax ar ad cO bo cL) (va_A (wL ax ar ad cO bo cL (σ, v)) sz)) (va_A (wL ax ar ad cO bo cL (σ, v)) sz)) 1 6 (va_A (wL ax ar ad cO bo cL (σ, v)) sz) := by
  refine xwOpen (w := (wL ax ar ad cO bo cL)) (σ := (σ, v)) (cc := cL_pass) (maxL := 4) (ret := some .int) (hh := [(0, 9, 12, 15)]) (QQ := fun A => va_Qi (fun (r : Int32) (u : St × Int64) => (r = 0 ∧ (∃ r0 : Int32, (inR t 1 10000 = true ∧ r0 = gI σ 1 + t ∧ u.1 = uI σ 1 (gI σ 1 + t)) ∧ u.2 = r0.toInt64)) ∨ (r = 1 ∧ (inR t 1 10000 = false) ∧ u = (σ, v))) (xB D (tL cO cL) (wL ax ar ad cO bo cL) A) A) (by decide) rfl (Nat.le_of_ble_eq_true rfl) ?_
  intro p e s m below meth c A hx hb hr hml hown hts hlocks htab hK hE hA hP hD hS ls hl
  have hl : lv_has ls 4 [(0, .ref ax), (1, .int t), (2, .ref bo)] := hl
  have hown : s.vm.findClass RL = some m.cls := hown
  have hKc : va_K D vwCl (cT cO) s := hK.sub [0] rfl
  generalize hH : s.heap = H at hP
  have hS : va_S A s.heap H [] := by rw [← hH]; exact va_S.rf
  generalize hlo : ([] : List Loc) = locs at hS
  refine lv_aload_n hx hb dL_pass_0 rfl (lv_at hl 2 rfl) ?_
  refine lv_iconst (v := 0) hx hb dL_pass_1 (by decide) ?_
  refine lv_aload_n hx hb dL_pass_2 rfl (lv_at hl 0 rfl) ?_
  refine lv_iload_n hx hb dL_pass_3 rfl (lv_at hl 1 rfl) ?_
  refine ff_calli (vx_runV (As := [.int t]) (rest := [.int 0, .ref bo]) ⟨hx, hb, hml, hown, hts⟩ (k_X1_pass l D ax ar ad cO H.size σ t hfl) (cwV 1 hts gL_pass_X1_pass rfl rfl rfl (by decide +kernel) ⟨Nat.le_of_ble_eq_true rfl, Nat.le_of_ble_eq_true rfl⟩) (xPreV xE_ok hE hKc hA (P_l hP) (D_l hD) hS (q0 := 0) (ci := 1) rfl rfl rfl) rfl rfl hl.1 rfl (lv_room (Nat.le_of_ble_eq_true rfl)) dL_pass_4 ⟨Nat.le_of_ble_eq_true rfl, Nat.le_of_ble_eq_true rfl⟩) hP hD hS hA (fun En ce q9 H locs hxc hP hS hq9 hv9 hcl9 => ?_) (fun r u H locs hp hP hD hS => ?_)
  · obtain ⟨rfl, hc9⟩ := hxc
    refine vx_catch (name := xIA) hown [] ⟨0, 9, 12, 15⟩ [] (by rw [htab]; rfl) (fun z hz => nomatch hz) (by decide) (by decide) (hts (.classLink RL 15 "java/lang/IllegalArgumentException") (List.mem_of_getElem? (i := 1) rfl)) (va_Nw.use rfl (hE.1.2.2.2.1 xIA (List.mem_of_getElem? (i := 1) rfl))) hq9 hv9 hcl9 ?_
    refine lv_astore_n (lv' := (3, .ref q9) :: [(0, .ref ax), (1, .int t), (2, .ref bo)]) hx hb dL_pass_12 rfl hl (by decide) rfl (fun ls hl => ?_)
    refine lv_iconst (v := 1) hx hb dL_pass_13 (by decide) ?_
    exact x_iret hx hb hr hlocks hK ((σ, v) : St × Int64) hP hD hS (Or.inr ⟨rfl, hc9, rfl⟩) dL_pass_14
  · refine lv_i2l hx hb dL_pass_7 rfl ?_
    refine va_last hx hb hK hP hD hS (cW ax ar ad cO u).length 1 (get_app _ _) rfl (by unfold vp_in; decide) dL_pass_8 (fun H locs hP hD hS => ?_)
    rw [set_app] at hP hD
    have hP := o_P (x := r.toInt64) hP rfl
    have hD := o_D (x := r.toInt64) hD
    refine lv_goto (tgt := 15) hx hb dL_pass_9 (by decide) ?_
    refine lv_iconst (v := 0) hx hb dL_pass_15 (by decide) ?_
    exact x_iret hx hb hr hlocks hK ((u, r.toInt64) : St × Int64) hP hD hS (Or.inl ⟨rfl, r, hp, rfl⟩) dL_pass_16

set_option maxHeartbeats 4000000 in
set_option maxRecDepth 100000 in
theorem k_L_pin (l : Launch) (D : va_G) (ax ar : Nat) (ad : Nat → Nat) (cO : ClassId) (bo : Nat) (cL : ClassId) (sz : Nat) (σ : St) (v : Int64) (t : Int32) (b : Bool) (hfl : l.stackTraces = false) : Met l yL_pin wsL_pin ({ frames := 9, cells := 2, slots := 12, locals := 260 } : Room) (va_Pc [.ref ax, .int t, .int (bI b), .ref bo] (xPre D (tL cO cL) xE (wL ax ar ad cO bo cL) (σ, v) sz)) (va_Qi (fun (r : Int32) (u : St × Int64) => (r = 0 ∧ (∃ r0 : Int32, (isT t = true ∧ (∀ k, k < 32 → t = nI k → gB σ 1 k = true ∧ r0 = bI (gB σ 2 k) ∧ u.1 = uB σ 2 k b)) ∧ u.2 = (if r0 = 0 then 0 else 1))) ∨ (r = 1 ∧ (isT t = false) ∧ u = (σ, v)) ∨ (r = 2 ∧ (isT t = true ∧ ∀ k, k < 32 → t = nI k → gB σ 1 k = false) ∧ u = (σ, v))) (xB D (tL cO cL) (wL ax ar ad cO bo cL) (va_A (wL ax ar ad cO bo cL (σ, v)) sz)) (va_A (wL ax ar ad cO bo cL (σ, v)) sz)) 2 12 (va_A (wL ax ar ad cO bo cL (σ, v)) sz) := by
  refine xwOpen (w := (wL ax ar ad cO bo cL)) (σ := (σ, v)) (cc := cL_pin) (maxL := 5) (ret := some .int) (hh := [(0, 17, 20, 13), (0, 17, 24, 25)]) (QQ := fun A => va_Qi (fun (r : Int32) (u : St × Int64) => (r = 0 ∧ (∃ r0 : Int32, (isT t = true ∧ (∀ k, k < 32 → t = nI k → gB σ 1 k = true ∧ r0 = bI (gB σ 2 k) ∧ u.1 = uB σ 2 k b)) ∧ u.2 = (if r0 = 0 then 0 else 1))) ∨ (r = 1 ∧ (isT t = false) ∧ u = (σ, v)) ∨ (r = 2 ∧ (isT t = true ∧ ∀ k, k < 32 → t = nI k → gB σ 1 k = false) ∧ u = (σ, v))) (xB D (tL cO cL) (wL ax ar ad cO bo cL) A) A) (by decide) rfl (Nat.le_of_ble_eq_true rfl) ?_
  intro p e s m below meth c A hx hb hr hml hown hts hlocks htab hK hE hA hP hD hS ls hl
  have hl : lv_has ls 5 [(0, .ref ax), (1, .int t), (2, .int (bI b)), (3, .ref bo)] := hl
  have hown : s.vm.findClass RL = some m.cls := hown
  have hKc : va_K D vwCl (cT cO) s := hK.sub [0] rfl
  generalize hH : s.heap = H at hP
  have hS : va_S A s.heap H [] := by rw [← hH]; exact va_S.rf
  generalize hlo : ([] : List Loc) = locs at hS
  refine lv_aload_n hx hb dL_pin_0 rfl (lv_at hl 3 rfl) ?_
  refine lv_iconst (v := 0) hx hb dL_pin_1 (by decide) ?_
  refine lv_aload_n hx hb dL_pin_2 rfl (lv_at hl 0 rfl) ?_
  refine lv_iload_n hx hb dL_pin_3 rfl (lv_at hl 1 rfl) ?_
  refine lv_iload_n hx hb dL_pin_4 rfl (lv_at hl 2 rfl) ?_
  refine ff_calli (vx_runV (As := [.int t, .int (bI b)]) (rest := [.int 0, .ref bo]) ⟨hx, hb, hml, hown, hts⟩ (k_X1_pin l D ax ar ad cO H.size σ t b hfl) (cwV 2 hts gL_pin_X1_pin rfl rfl rfl (by decide +kernel) ⟨Nat.le_of_ble_eq_true rfl, Nat.le_of_ble_eq_true rfl⟩) (xPreV xE_ok hE hKc hA (P_l hP) (D_l hD) hS (q0 := 0) (ci := 1) rfl rfl rfl) rfl rfl hl.1 rfl (lv_room (Nat.le_of_ble_eq_true rfl)) dL_pin_5 ⟨Nat.le_of_ble_eq_true rfl, Nat.le_of_ble_eq_true rfl⟩) hP hD hS hA (fun En ce q9 H locs hxc hP hS hq9 hv9 hcl9 => ?_) (fun r u H locs hp hP hD hS => ?_)
  · rcases hxc with ⟨rfl, hc9⟩ | ⟨rfl, hc9⟩
    · refine vx_catch (name := xIO) hown [] ⟨0, 17, 20, 13⟩ [⟨0, 17, 24, 25⟩] (by rw [htab]; rfl) (fun z hz => nomatch hz) (by decide) (by decide) (hts (.classLink RL 13 "java/lang/IndexOutOfBoundsException") (List.mem_of_getElem? (i := 1) rfl)) (va_Nw.use rfl (hE.1.2.2.2.1 xIO (List.mem_of_getElem? (i := 0) rfl))) hq9 hv9 hcl9 ?_
      refine lv_astore (lv' := (4, .ref q9) :: [(0, .ref ax), (1, .int t), (2, .int (bI b)), (3, .ref bo)]) hx hb dL_pin_20 hl (by decide) rfl (fun ls hl => ?_)
      refine lv_iconst (v := 1) hx hb dL_pin_22 (by decide) ?_
      exact x_iret hx hb hr hlocks hK ((σ, v) : St × Int64) hP hD hS (Or.inr (Or.inl ⟨rfl, hc9, rfl⟩)) dL_pin_23
    · refine vx_catch (name := xIS) hown [⟨0, 17, 20, 13⟩] ⟨0, 17, 24, 25⟩ [] (by rw [htab]; rfl) (fun z hz => by rw [List.mem_singleton.mp hz]; exact Or.inr ⟨by decide, xIO, hts (.classLink RL 13 "java/lang/IndexOutOfBoundsException") (List.mem_of_getElem? (i := 1) rfl), hE.1.2.2.2.2 (xIS, xIO) (List.mem_of_getElem? (i := 1) rfl)⟩) (by decide) (by decide) (hts (.classLink RL 25 "java/lang/IllegalStateException") (List.mem_of_getElem? (i := 2) rfl)) (va_Nw.use rfl (hE.1.2.2.2.1 xIS (List.mem_of_getElem? (i := 2) rfl))) hq9 hv9 hcl9 ?_
      refine lv_astore (lv' := (4, .ref q9) :: [(0, .ref ax), (1, .int t), (2, .int (bI b)), (3, .ref bo)]) hx hb dL_pin_24 hl (by decide) rfl (fun ls hl => ?_)
      refine lv_iconst (v := 2) hx hb dL_pin_26 (by decide) ?_
      exact x_iret hx hb hr hlocks hK ((σ, v) : St × Int64) hP hD hS (Or.inr (Or.inr ⟨rfl, hc9, rfl⟩)) dL_pin_27
  · refine lv_if_eq (tgt := 15) hx hb dL_pin_8 (by decide) (fun c_1 => ?_) (fun c_1 => ?_)
    · refine lv_lconst (v := 0) hx hb dL_pin_15 (by decide) ?_
      refine va_last hx hb hK hP hD hS (cW ax ar ad cO u).length 1 (get_app _ _) rfl (by unfold vp_in; decide) dL_pin_16 (fun H locs hP hD hS => ?_)
      rw [set_app] at hP hD
      have hP := o_P (x := 0) hP rfl
      have hD := o_D (x := 0) hD
      refine lv_goto (tgt := 28) hx hb dL_pin_17 (by decide) ?_
      refine lv_iconst (v := 0) hx hb dL_pin_28 (by decide) ?_
      exact x_iret hx hb hr hlocks hK ((u, 0) : St × Int64) hP hD hS (Or.inl ⟨rfl, r, hp, by rw [if_pos c_1]⟩) dL_pin_29
    · refine lv_lconst (v := 1) hx hb dL_pin_11 (by decide) ?_
      refine lv_goto (tgt := 16) hx hb dL_pin_12 (by decide) ?_
      refine va_last hx hb hK hP hD hS (cW ax ar ad cO u).length 1 (get_app _ _) rfl (by unfold vp_in; decide) dL_pin_16 (fun H locs hP hD hS => ?_)
      rw [set_app] at hP hD
      have hP := o_P (x := 1) hP rfl
      have hD := o_D (x := 1) hD
      refine lv_goto (tgt := 28) hx hb dL_pin_17 (by decide) ?_
      refine lv_iconst (v := 0) hx hb dL_pin_28 (by decide) ?_
      exact x_iret hx hb hr hlocks hK ((u, 1) : St × Int64) hP hD hS (Or.inl ⟨rfl, r, hp, by rw [if_neg c_1]⟩) dL_pin_29

set_option maxHeartbeats 4000000 in
set_option maxRecDepth 100000 in
theorem k_L_drop (l : Launch) (D : va_G) (ax ar : Nat) (ad : Nat → Nat) (cO : ClassId) (bo : Nat) (cL : ClassId) (sz : Nat) (σ : St) (v : Int64) (t : Int32) (hfl : l.stackTraces = false) : Met l yL_drop wsL_drop ({ frames := 9, cells := 2, slots := 12, locals := 260 } : Room) (va_Pc [.ref ax, .int t, .ref bo] (xPre D (tL cO cL) xE (wL ax ar ad cO bo cL) (σ, v) sz)) (va_Qi (fun (r : Int32) (u : St × Int64) => (r = 0 ∧ (∃ r0 : Int32, (isT t = true ∧ (∀ k, k < 32 → t = nI k → gB σ 1 k = true ∧ r0 = gS σ 3 k ∧ u.1 = uB σ 1 k false)) ∧ u.2 = r0.toInt64)) ∨ (r = 1 ∧ (isT t = false) ∧ u = (σ, v)) ∨ (r = 2 ∧ (isT t = true ∧ ∀ k, k < 32 → t = nI k → gB σ 1 k = false) ∧ u = (σ, v))) (xB D (tL cO cL) (wL ax ar ad cO bo cL) (va_A (wL ax ar ad cO bo cL (σ, v)) sz)) (va_A (wL ax ar ad cO bo cL (σ, v)) sz)) 2 12 (va_A (wL ax ar ad cO bo cL (σ, v)) sz) := by
  refine xwOpen (w := (wL ax ar ad cO bo cL)) (σ := (σ, v)) (cc := cL_drop) (maxL := 4) (ret := some .int) (hh := [(0, 9, 12, 13), (0, 9, 15, 25)]) (QQ := fun A => va_Qi (fun (r : Int32) (u : St × Int64) => (r = 0 ∧ (∃ r0 : Int32, (isT t = true ∧ (∀ k, k < 32 → t = nI k → gB σ 1 k = true ∧ r0 = gS σ 3 k ∧ u.1 = uB σ 1 k false)) ∧ u.2 = r0.toInt64)) ∨ (r = 1 ∧ (isT t = false) ∧ u = (σ, v)) ∨ (r = 2 ∧ (isT t = true ∧ ∀ k, k < 32 → t = nI k → gB σ 1 k = false) ∧ u = (σ, v))) (xB D (tL cO cL) (wL ax ar ad cO bo cL) A) A) (by decide) rfl (Nat.le_of_ble_eq_true rfl) ?_
  intro p e s m below meth c A hx hb hr hml hown hts hlocks htab hK hE hA hP hD hS ls hl
  have hl : lv_has ls 4 [(0, .ref ax), (1, .int t), (2, .ref bo)] := hl
  have hown : s.vm.findClass RL = some m.cls := hown
  have hKc : va_K D vwCl (cT cO) s := hK.sub [0] rfl
  generalize hH : s.heap = H at hP
  have hS : va_S A s.heap H [] := by rw [← hH]; exact va_S.rf
  generalize hlo : ([] : List Loc) = locs at hS
  refine lv_aload_n hx hb dL_drop_0 rfl (lv_at hl 2 rfl) ?_
  refine lv_iconst (v := 0) hx hb dL_drop_1 (by decide) ?_
  refine lv_aload_n hx hb dL_drop_2 rfl (lv_at hl 0 rfl) ?_
  refine lv_iload_n hx hb dL_drop_3 rfl (lv_at hl 1 rfl) ?_
  refine ff_calli (vx_runV (As := [.int t]) (rest := [.int 0, .ref bo]) ⟨hx, hb, hml, hown, hts⟩ (k_X1_drop l D ax ar ad cO H.size σ t hfl) (cwV 1 hts gL_drop_X1_drop rfl rfl rfl (by decide +kernel) ⟨Nat.le_of_ble_eq_true rfl, Nat.le_of_ble_eq_true rfl⟩) (xPreV xE_ok hE hKc hA (P_l hP) (D_l hD) hS (q0 := 0) (ci := 1) rfl rfl rfl) rfl rfl hl.1 rfl (lv_room (Nat.le_of_ble_eq_true rfl)) dL_drop_4 ⟨Nat.le_of_ble_eq_true rfl, Nat.le_of_ble_eq_true rfl⟩) hP hD hS hA (fun En ce q9 H locs hxc hP hS hq9 hv9 hcl9 => ?_) (fun r u H locs hp hP hD hS => ?_)
  · rcases hxc with ⟨rfl, hc9⟩ | ⟨rfl, hc9⟩
    · refine vx_catch (name := xIO) hown [] ⟨0, 9, 12, 13⟩ [⟨0, 9, 15, 25⟩] (by rw [htab]; rfl) (fun z hz => nomatch hz) (by decide) (by decide) (hts (.classLink RL 13 "java/lang/IndexOutOfBoundsException") (List.mem_of_getElem? (i := 1) rfl)) (va_Nw.use rfl (hE.1.2.2.2.1 xIO (List.mem_of_getElem? (i := 0) rfl))) hq9 hv9 hcl9 ?_
      refine lv_astore_n (lv' := (3, .ref q9) :: [(0, .ref ax), (1, .int t), (2, .ref bo)]) hx hb dL_drop_12 rfl hl (by decide) rfl (fun ls hl => ?_)
      refine lv_iconst (v := 1) hx hb dL_drop_13 (by decide) ?_
      exact x_iret hx hb hr hlocks hK ((σ, v) : St × Int64) hP hD hS (Or.inr (Or.inl ⟨rfl, hc9, rfl⟩)) dL_drop_14
    · refine vx_catch (name := xIS) hown [⟨0, 9, 12, 13⟩] ⟨0, 9, 15, 25⟩ [] (by rw [htab]; rfl) (fun z hz => by rw [List.mem_singleton.mp hz]; exact Or.inr ⟨by decide, xIO, hts (.classLink RL 13 "java/lang/IndexOutOfBoundsException") (List.mem_of_getElem? (i := 1) rfl), hE.1.2.2.2.2 (xIS, xIO) (List.mem_of_getElem? (i := 1) rfl)⟩) (by decide) (by decide) (hts (.classLink RL 25 "java/lang/IllegalStateException") (List.mem_of_getElem? (i := 2) rfl)) (va_Nw.use rfl (hE.1.2.2.2.1 xIS (List.mem_of_getElem? (i := 2) rfl))) hq9 hv9 hcl9 ?_
      refine lv_astore_n (lv' := (3, .ref q9) :: [(0, .ref ax), (1, .int t), (2, .ref bo)]) hx hb dL_drop_15 rfl hl (by decide) rfl (fun ls hl => ?_)
      refine lv_iconst (v := 2) hx hb dL_drop_16 (by decide) ?_
      exact x_iret hx hb hr hlocks hK ((σ, v) : St × Int64) hP hD hS (Or.inr (Or.inr ⟨rfl, hc9, rfl⟩)) dL_drop_17
  · refine lv_i2l hx hb dL_drop_7 rfl ?_
    refine va_last hx hb hK hP hD hS (cW ax ar ad cO u).length 1 (get_app _ _) rfl (by unfold vp_in; decide) dL_drop_8 (fun H locs hP hD hS => ?_)
    rw [set_app] at hP hD
    have hP := o_P (x := r.toInt64) hP rfl
    have hD := o_D (x := r.toInt64) hD
    refine lv_goto (tgt := 18) hx hb dL_drop_9 (by decide) ?_
    refine lv_iconst (v := 0) hx hb dL_drop_18 (by decide) ?_
    exact x_iret hx hb hr hlocks hK ((u, r.toInt64) : St × Int64) hP hD hS (Or.inl ⟨rfl, r, hp, rfl⟩) dL_drop_19

set_option maxHeartbeats 4000000 in
set_option maxRecDepth 100000 in
theorem k_L_setCapacity (l : Launch) (D : va_G) (ax ar : Nat) (ad : Nat → Nat) (cO : ClassId) (bo : Nat) (cL : ClassId) (sz : Nat) (σ : St) (v : Int64) (t : Int32) (hfl : l.stackTraces = false) : Met l yL_setCapacity wsL_setCapacity ({ frames := 9, cells := 2, slots := 12, locals := 260 } : Room) (va_Pc [.ref ax, .int t, .ref bo] (xPre D (tL cO cL) xE (wL ax ar ad cO bo cL) (σ, v) sz)) (va_Qi (fun (r : Int32) (u : St × Int64) => (r = 0 ∧ (∃ r0 : Int32, (inR t 1 10000 = true ∧ ¬ t < pinA σ ∧ r0 = (cSetCap σ t).1 ∧ u.1 = (cSetCap σ t).2) ∧ u.2 = r0.toInt64)) ∨ (r = 1 ∧ (inR t 1 10000 = false) ∧ u = (σ, v)) ∨ (r = 2 ∧ (inR t 1 10000 = true ∧ t < pinA σ) ∧ u = (σ, v))) (xB D (tL cO cL) (wL ax ar ad cO bo cL) (va_A (wL ax ar ad cO bo cL (σ, v)) sz)) (va_A (wL ax ar ad cO bo cL (σ, v)) sz)) 2 12 (va_A (wL ax ar ad cO bo cL (σ, v)) sz) := by
  refine xwOpen (w := (wL ax ar ad cO bo cL)) (σ := (σ, v)) (cc := cL_setCapacity) (maxL := 4) (ret := some .int) (hh := [(0, 9, 12, 15), (0, 9, 15, 25)]) (QQ := fun A => va_Qi (fun (r : Int32) (u : St × Int64) => (r = 0 ∧ (∃ r0 : Int32, (inR t 1 10000 = true ∧ ¬ t < pinA σ ∧ r0 = (cSetCap σ t).1 ∧ u.1 = (cSetCap σ t).2) ∧ u.2 = r0.toInt64)) ∨ (r = 1 ∧ (inR t 1 10000 = false) ∧ u = (σ, v)) ∨ (r = 2 ∧ (inR t 1 10000 = true ∧ t < pinA σ) ∧ u = (σ, v))) (xB D (tL cO cL) (wL ax ar ad cO bo cL) A) A) (by decide) rfl (Nat.le_of_ble_eq_true rfl) ?_
  intro p e s m below meth c A hx hb hr hml hown hts hlocks htab hK hE hA hP hD hS ls hl
  have hl : lv_has ls 4 [(0, .ref ax), (1, .int t), (2, .ref bo)] := hl
  have hown : s.vm.findClass RL = some m.cls := hown
  have hKc : va_K D vwCl (cT cO) s := hK.sub [0] rfl
  generalize hH : s.heap = H at hP
  have hS : va_S A s.heap H [] := by rw [← hH]; exact va_S.rf
  generalize hlo : ([] : List Loc) = locs at hS
  refine lv_aload_n hx hb dL_setCapacity_0 rfl (lv_at hl 2 rfl) ?_
  refine lv_iconst (v := 0) hx hb dL_setCapacity_1 (by decide) ?_
  refine lv_aload_n hx hb dL_setCapacity_2 rfl (lv_at hl 0 rfl) ?_
  refine lv_iload_n hx hb dL_setCapacity_3 rfl (lv_at hl 1 rfl) ?_
  refine ff_calli (vx_runV (As := [.int t]) (rest := [.int 0, .ref bo]) ⟨hx, hb, hml, hown, hts⟩ (k_X1_setCapacity l D ax ar ad cO H.size σ t hfl) (cwV 1 hts gL_setCapacity_X1_setCapacity rfl rfl rfl (by decide +kernel) ⟨Nat.le_of_ble_eq_true rfl, Nat.le_of_ble_eq_true rfl⟩) (xPreV xE_ok hE hKc hA (P_l hP) (D_l hD) hS (q0 := 0) (ci := 1) rfl rfl rfl) rfl rfl hl.1 rfl (lv_room (Nat.le_of_ble_eq_true rfl)) dL_setCapacity_4 ⟨Nat.le_of_ble_eq_true rfl, Nat.le_of_ble_eq_true rfl⟩) hP hD hS hA (fun En ce q9 H locs hxc hP hS hq9 hv9 hcl9 => ?_) (fun r u H locs hp hP hD hS => ?_)
  · rcases hxc with ⟨rfl, hc9⟩ | ⟨rfl, hc9⟩
    · refine vx_catch (name := xIA) hown [] ⟨0, 9, 12, 15⟩ [⟨0, 9, 15, 25⟩] (by rw [htab]; rfl) (fun z hz => nomatch hz) (by decide) (by decide) (hts (.classLink RL 15 "java/lang/IllegalArgumentException") (List.mem_of_getElem? (i := 1) rfl)) (va_Nw.use rfl (hE.1.2.2.2.1 xIA (List.mem_of_getElem? (i := 1) rfl))) hq9 hv9 hcl9 ?_
      refine lv_astore_n (lv' := (3, .ref q9) :: [(0, .ref ax), (1, .int t), (2, .ref bo)]) hx hb dL_setCapacity_12 rfl hl (by decide) rfl (fun ls hl => ?_)
      refine lv_iconst (v := 1) hx hb dL_setCapacity_13 (by decide) ?_
      exact x_iret hx hb hr hlocks hK ((σ, v) : St × Int64) hP hD hS (Or.inr (Or.inl ⟨rfl, hc9, rfl⟩)) dL_setCapacity_14
    · refine vx_catch (name := xIS) hown [⟨0, 9, 12, 15⟩] ⟨0, 9, 15, 25⟩ [] (by rw [htab]; rfl) (fun z hz => by rw [List.mem_singleton.mp hz]; exact Or.inr ⟨by decide, xIA, hts (.classLink RL 15 "java/lang/IllegalArgumentException") (List.mem_of_getElem? (i := 1) rfl), hE.1.2.2.2.2 (xIS, xIA) (List.mem_of_getElem? (i := 3) rfl)⟩) (by decide) (by decide) (hts (.classLink RL 25 "java/lang/IllegalStateException") (List.mem_of_getElem? (i := 2) rfl)) (va_Nw.use rfl (hE.1.2.2.2.1 xIS (List.mem_of_getElem? (i := 2) rfl))) hq9 hv9 hcl9 ?_
      refine lv_astore_n (lv' := (3, .ref q9) :: [(0, .ref ax), (1, .int t), (2, .ref bo)]) hx hb dL_setCapacity_15 rfl hl (by decide) rfl (fun ls hl => ?_)
      refine lv_iconst (v := 2) hx hb dL_setCapacity_16 (by decide) ?_
      exact x_iret hx hb hr hlocks hK ((σ, v) : St × Int64) hP hD hS (Or.inr (Or.inr ⟨rfl, hc9, rfl⟩)) dL_setCapacity_17
  · refine lv_i2l hx hb dL_setCapacity_7 rfl ?_
    refine va_last hx hb hK hP hD hS (cW ax ar ad cO u).length 1 (get_app _ _) rfl (by unfold vp_in; decide) dL_setCapacity_8 (fun H locs hP hD hS => ?_)
    rw [set_app] at hP hD
    have hP := o_P (x := r.toInt64) hP rfl
    have hD := o_D (x := r.toInt64) hD
    refine lv_goto (tgt := 18) hx hb dL_setCapacity_9 (by decide) ?_
    refine lv_iconst (v := 0) hx hb dL_setCapacity_18 (by decide) ?_
    exact x_iret hx hb hr hlocks hK ((u, r.toInt64) : St × Int64) hP hD hS (Or.inl ⟨rfl, r, hp, rfl⟩) dL_setCapacity_19
