set_option maxHeartbeats 4000000 in
set_option maxRecDepth 100000 in
theorem k_X2_in (l : Launch) (D : va_G) (bx : Nat) (ba : Nat → Nat) (cI cJ cZ : ClassId) (sz : Nat) (σ : St) (t a b : Int32) : Met l yX2_in wsX2_in ({ frames := 0, cells := 0, slots := 0, locals := 0 } : Room) (va_Pc [.int t, .int a, .int b] (xPre D (mT cI cJ cZ) mE (mW bx ba cI cJ cZ) σ sz)) (va_Qi (fun (r : Int32) (u : St) => r = bI (inR t a b) ∧ u = σ) (xB D (mT cI cJ cZ) (mW bx ba cI cJ cZ) (va_A (mW bx ba cI cJ cZ σ) sz)) (va_A (mW bx ba cI cJ cZ σ) sz)) 0 0 (va_A (mW bx ba cI cJ cZ σ) sz) := by
  refine xOpen (w := (mW bx ba cI cJ cZ)) (σ := σ) (cc := cX2_in) (maxL := 3) (ret := some .boolean) (QQ := fun A => va_Qi (fun (r : Int32) (u : St) => r = bI (inR t a b) ∧ u = σ) (xB D (mT cI cJ cZ) (mW bx ba cI cJ cZ) A) A) (by decide) rfl (Nat.le_of_ble_eq_true rfl) ?_
  intro p e s m below meth c A hx hb hr hml hown hts hlocks hname hK hE hA hP hD hS ls hl
  have hl : lv_has ls 3 [(0, .int t), (1, .int a), (2, .int b)] := hl
  have hown : s.vm.findClass RX2 = some m.cls := hown
  generalize hH : s.heap = H at hP
  have hS : va_S A s.heap H [] := by rw [← hH]; exact va_S.rf
  generalize hlo : ([] : List Loc) = locs at hS
  refine lv_iload_n hx hb dX2_in_0 rfl (lv_at hl 0 rfl) ?_
  refine lv_iload_n hx hb dX2_in_1 rfl (lv_at hl 1 rfl) ?_
  refine lv_icmp_lt (tgt := 14) hx hb dX2_in_2 (by decide) (fun c_1 => ?_) (fun c_1 => ?_)
  · refine lv_iconst (v := 0) hx hb dX2_in_14 (by decide) ?_
    exact x_zret (b := false) hx hb hr hlocks hK (σ) hP hD hS ⟨by simp [inR, c_1], rfl⟩ dX2_in_15
  · refine lv_iload_n hx hb dX2_in_5 rfl (lv_at hl 0 rfl) ?_
    refine lv_iload_n hx hb dX2_in_6 rfl (lv_at hl 2 rfl) ?_
    refine lv_icmp_gt (tgt := 14) hx hb dX2_in_7 (by decide) (fun c_2 => ?_) (fun c_2 => ?_)
    · refine lv_iconst (v := 0) hx hb dX2_in_14 (by decide) ?_
      exact x_zret (b := false) hx hb hr hlocks hK (σ) hP hD hS ⟨by simp [inR, c_1, c_2], rfl⟩ dX2_in_15
    · refine lv_iconst (v := 1) hx hb dX2_in_10 (by decide) ?_
      refine lv_goto (tgt := 15) hx hb dX2_in_11 (by decide) ?_
      exact x_zret (b := true) hx hb hr hlocks hK (σ) hP hD hS ⟨by simp [inR, c_1, c_2], rfl⟩ dX2_in_15
set_option maxHeartbeats 4000000 in
set_option maxRecDepth 100000 in
theorem k_X2_isThing (l : Launch) (D : va_G) (bx : Nat) (ba : Nat → Nat) (cI cJ cZ : ClassId) (sz : Nat) (σ : St) (t : Int32) : Met l yX2_isThing wsX2_isThing ({ frames := 1, cells := 0, slots := 0, locals := 40 } : Room) (va_Pc [.ref bx, .int t] (xPre D (mT cI cJ cZ) mE (mW bx ba cI cJ cZ) σ sz)) (va_Qi (fun (r : Int32) (u : St) => r = bI (isT t) ∧ u = uI σ 20 (if isT t then 0 else 1)) (xB D (mT cI cJ cZ) (mW bx ba cI cJ cZ) (va_A (mW bx ba cI cJ cZ σ) sz)) (va_A (mW bx ba cI cJ cZ σ) sz)) 0 0 (va_A (mW bx ba cI cJ cZ σ) sz) := by
  refine xOpen (w := (mW bx ba cI cJ cZ)) (σ := σ) (cc := cX2_isThing) (maxL := 2) (ret := some .boolean) (QQ := fun A => va_Qi (fun (r : Int32) (u : St) => r = bI (isT t) ∧ u = uI σ 20 (if isT t then 0 else 1)) (xB D (mT cI cJ cZ) (mW bx ba cI cJ cZ) A) A) (by decide) rfl (Nat.le_of_ble_eq_true rfl) ?_
  intro p e s m below meth c A hx hb hr hml hown hts hlocks hname hK hE hA hP hD hS ls hl
  have hl : lv_has ls 2 [(0, .ref bx), (1, .int t)] := hl
  have hown : s.vm.findClass RX2 = some m.cls := hown
  have hi2 : ∀ w ∈ wsX20, w ∈ wsX2_isThing := (fun _ h => List.mem_cons_of_mem _ (List.mem_append_right _ h))
  generalize hH : s.heap = H at hP
  have hS : va_S A s.heap H [] := by rw [← hH]; exact va_S.rf
  generalize hlo : ([] : List Loc) = locs at hS
  refine lv_aload_n hx hb dX2_isThing_0 rfl (lv_at hl 0 rfl) ?_
  refine lv_iload_n hx hb dX2_isThing_1 rfl (lv_at hl 1 rfl) ?_
  refine lv_iconst (v := 0) hx hb dX2_isThing_2 (by decide) ?_
  refine lv_bipush (v := 31) hx hb dX2_isThing_3 (by decide) ?_
  refine x_calli (va_runS (As := [.int t, .int 0, .int 31]) (rest := [.ref bx]) ⟨hx, hb, hml, hown, hts⟩ (k_X2_in l D bx ba cI cJ cZ H.size σ t 0 31) (va_cwS 3 hts gX2_isThing_X2_in rfl rfl rfl (by decide +kernel) ⟨Nat.le_of_ble_eq_true rfl, Nat.le_of_ble_eq_true rfl⟩) (xPreS mE_ok hE hK hA hP hD hS) rfl rfl hl.1 rfl (lv_room (Nat.le_of_ble_eq_true rfl)) dX2_isThing_5 ⟨Nat.le_of_ble_eq_true rfl, Nat.le_of_ble_eq_true rfl⟩) hD hS hA (fun r u H locs hp hP hD hS => ?_)
  obtain ⟨rfl, hu9⟩ := hp
  rw [hu9] at hP hD
  refine x_ifeq (tgt := 15) hx hb dX2_isThing_8 (by decide) (fun c_1 => ?_) (fun c_1 => ?_)
  · refine lv_iconst (v := 1) hx hb dX2_isThing_15 (by decide) ?_
    refine m_put hx hb hts hi2 hown hK hP hD hS 21 (by decide) (List.mem_of_getElem? (i := 1) rfl) (v := .int 1) (ty := .int) (uI σ 20 1) (mF_21 bx ba cI cJ cZ _ _) rfl (by decide +kernel) rfl rfl dX2_isThing_16 (fun _ h => h) (fun H locs hP hD hS => ?_)
    refine lv_aload_n hx hb dX2_isThing_19 rfl (lv_at hl 0 rfl) ?_
    refine m_get hx hb hts hi2 hown hK hP 21 (by decide) (List.mem_of_getElem? (i := 1) rfl) (v := .int 1) rfl dX2_isThing_20 (fun _ h => h) ?_
    refine lv_if_ne (tgt := 30) hx hb dX2_isThing_23 (by decide) (fun _ => ?_) (fun c_2 => absurd c_2 (by decide))
    refine lv_iconst (v := 0) hx hb dX2_isThing_30 (by decide) ?_
    exact x_zret (b := false) hx hb hr hlocks hK (uI σ 20 1) hP hD hS ⟨by rw [isT_in, c_1], by rw [isT_in, c_1]; rfl⟩ dX2_isThing_31
  · refine lv_iconst (v := 0) hx hb dX2_isThing_11 (by decide) ?_
    refine lv_goto (tgt := 16) hx hb dX2_isThing_12 (by decide) ?_
    refine m_put hx hb hts hi2 hown hK hP hD hS 21 (by decide) (List.mem_of_getElem? (i := 1) rfl) (v := .int 0) (ty := .int) (uI σ 20 0) (mF_21 bx ba cI cJ cZ _ _) rfl (by decide +kernel) rfl rfl dX2_isThing_16 (fun _ h => h) (fun H locs hP hD hS => ?_)
    refine lv_aload_n hx hb dX2_isThing_19 rfl (lv_at hl 0 rfl) ?_
    refine m_get hx hb hts hi2 hown hK hP 21 (by decide) (List.mem_of_getElem? (i := 1) rfl) (v := .int 0) rfl dX2_isThing_20 (fun _ h => h) ?_
    refine lv_if_ne (tgt := 30) hx hb dX2_isThing_23 (by decide) (fun c_3 => absurd (by decide) c_3) (fun _ => ?_)
    refine lv_iconst (v := 1) hx hb dX2_isThing_26 (by decide) ?_
    refine lv_goto (tgt := 31) hx hb dX2_isThing_27 (by decide) ?_
    exact x_zret (b := true) hx hb hr hlocks hK (uI σ 20 0) hP hD hS ⟨by rw [isT_in, c_1], by rw [isT_in, c_1]; rfl⟩ dX2_isThing_31
set_option maxHeartbeats 4000000 in
set_option maxRecDepth 100000 in
theorem k_X2_over (l : Launch) (D : va_G) (bx : Nat) (ba : Nat → Nat) (cI cJ cZ : ClassId) (sz : Nat) (σ : St) {k : Nat} (hk : k < 32) : Met l yX2_over wsX2_over ({ frames := 0, cells := 0, slots := 0, locals := 0 } : Room) (va_Pc [.ref bx, .int (nI k)] (xPre D (mT cI cJ cZ) mE (mW bx ba cI cJ cZ) σ sz)) (va_Qi (fun (r : Int32) (u : St) => r = bI (ovr σ k) ∧ u = σ) (xB D (mT cI cJ cZ) (mW bx ba cI cJ cZ) (va_A (mW bx ba cI cJ cZ σ) sz)) (va_A (mW bx ba cI cJ cZ σ) sz)) 0 0 (va_A (mW bx ba cI cJ cZ σ) sz) := by
  refine xOpen (w := (mW bx ba cI cJ cZ)) (σ := σ) (cc := cX2_over) (maxL := 2) (ret := some .boolean) (QQ := fun A => va_Qi (fun (r : Int32) (u : St) => r = bI (ovr σ k) ∧ u = σ) (xB D (mT cI cJ cZ) (mW bx ba cI cJ cZ) A) A) (by decide) rfl (Nat.le_of_ble_eq_true rfl) ?_
  intro p e s m below meth c A hx hb hr hml hown hts hlocks hname hK hE hA hP hD hS ls hl
  have hl : lv_has ls 2 [(0, .ref bx), (1, .int (nI k))] := hl
  have hown : s.vm.findClass RX2 = some m.cls := hown
  have hi2 : ∀ w ∈ wsX20, w ∈ wsX2_over := (fun _ h => List.mem_cons_of_mem _ (List.mem_append_right _ h))
  generalize hH : s.heap = H at hP
  have hS : va_S A s.heap H [] := by rw [← hH]; exact va_S.rf
  generalize hlo : ([] : List Loc) = locs at hS
  refine lv_aload_n hx hb dX2_over_0 rfl (lv_at hl 0 rfl) ?_
  refine m_get hx hb hts hi2 hown hK hP 5 (by decide) (List.mem_of_getElem? (i := 1) rfl) (v := .ref (ba 0)) rfl dX2_over_1 (fun _ h => h) ?_
  refine lv_iload_n hx hb dX2_over_4 rfl (lv_at hl 1 rfl) ?_
  refine m_ld0 hx hb hK hP hk dX2_over_5 ?_
  refine x_ifeq (tgt := 26) hx hb dX2_over_6 (by decide) (fun c_1 => ?_) (fun c_1 => ?_)
  · refine lv_iconst (v := 0) hx hb dX2_over_26 (by decide) ?_
    exact x_zret (b := false) hx hb hr hlocks hK (σ) hP hD hS ⟨by simp only [ovr, ended]; simp [c_1], rfl⟩ dX2_over_27
  · refine lv_aload_n hx hb dX2_over_9 rfl (lv_at hl 0 rfl) ?_
    refine m_get hx hb hts hi2 hown hK hP 2 (by decide) (List.mem_of_getElem? (i := 2) rfl) (v := .int (gI σ 1)) rfl dX2_over_10 (fun _ h => h) ?_
    refine lv_aload_n hx hb dX2_over_13 rfl (lv_at hl 0 rfl) ?_
    refine m_get hx hb hts hi2 hown hK hP 11 (by decide) (List.mem_of_getElem? (i := 3) rfl) (v := .ref (ba 6)) rfl dX2_over_14 (fun _ h => h) ?_
    refine lv_iload_n hx hb dX2_over_17 rfl (lv_at hl 1 rfl) ?_
    refine m_ld6 hx hb hK hP hk dX2_over_18 ?_
    refine lv_icmp_lt (tgt := 26) hx hb dX2_over_19 (by decide) (fun c_2 => ?_) (fun c_2 => ?_)
    · refine lv_iconst (v := 0) hx hb dX2_over_26 (by decide) ?_
      exact x_zret (b := false) hx hb hr hlocks hK (σ) hP hD hS ⟨by simp only [ovr, ended]; simp [c_1, c_2], rfl⟩ dX2_over_27
    · refine lv_iconst (v := 1) hx hb dX2_over_22 (by decide) ?_
      refine lv_goto (tgt := 27) hx hb dX2_over_23 (by decide) ?_
      exact x_zret (b := true) hx hb hr hlocks hK (σ) hP hD hS ⟨by simp only [ovr, ended]; simp [c_1, c_2], rfl⟩ dX2_over_27
