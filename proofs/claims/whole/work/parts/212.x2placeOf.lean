set_option maxHeartbeats 4000000 in
set_option maxRecDepth 100000 in
theorem k_X2_placeOf (l : Launch) (D : va_G) (bx : Nat) (ba : Nat → Nat) (cI cJ cZ : ClassId) (sz : Nat) (σ : St) (t : Int32) : Met l yX2_placeOf wsX2_placeOf ({ frames := 2, cells := 0, slots := 0, locals := 80 } : Room) (va_Pc [.ref bx, .int t] (xPre D (mT cI cJ cZ) mE (mW bx ba cI cJ cZ) σ sz)) (va_Qi (fun (r : Int32) (u : St) => (isT t = false → r = 0 ∧ u = uI σ 20 1) ∧ (∀ k, k < 32 → t = nI k → r = mPlace (uI σ 20 0) k ∧ u = uI σ 20 0)) (xB D (mT cI cJ cZ) (mW bx ba cI cJ cZ) (va_A (mW bx ba cI cJ cZ σ) sz)) (va_A (mW bx ba cI cJ cZ σ) sz)) 0 0 (va_A (mW bx ba cI cJ cZ σ) sz) := by
  refine xOpen (w := (mW bx ba cI cJ cZ)) (σ := σ) (cc := cX2_placeOf) (maxL := 2) (ret := some .int) (QQ := fun A => va_Qi (fun (r : Int32) (u : St) => (isT t = false → r = 0 ∧ u = uI σ 20 1) ∧ (∀ k, k < 32 → t = nI k → r = mPlace (uI σ 20 0) k ∧ u = uI σ 20 0)) (xB D (mT cI cJ cZ) (mW bx ba cI cJ cZ) A) A) (by decide) rfl (Nat.le_of_ble_eq_true rfl) ?_
  intro p e s m below meth c A hx hb hr hml hown hts hlocks hname hK hE hA hP hD hS ls hl
  have hl : lv_has ls 2 [(0, .ref bx), (1, .int t)] := hl
  have hown : s.vm.findClass RX2 = some m.cls := hown
  have hi2 : ∀ w ∈ wsX20, w ∈ wsX2_placeOf := (fun _ h => List.mem_cons_of_mem _ (List.mem_append_right _ h))
  generalize hH : s.heap = H at hP
  have hS : va_S A s.heap H [] := by rw [← hH]; exact va_S.rf
  generalize hlo : ([] : List Loc) = locs at hS
  refine lv_aload_n hx hb dX2_placeOf_0 rfl (lv_at hl 0 rfl) ?_
  refine lv_iload_n hx hb dX2_placeOf_1 rfl (lv_at hl 1 rfl) ?_
  refine x_calli (va_runV (As := [.int t]) (rest := []) ⟨hx, hb, hml, hown, hts⟩ (k_X2_isThing l D bx ba cI cJ cZ H.size σ t) (cwV 1 hts gX2_placeOf_X2_isThing rfl rfl rfl (by decide +kernel) ⟨Nat.le_of_ble_eq_true rfl, Nat.le_of_ble_eq_true rfl⟩) (xPreV mE_ok hE hK hA hP hD hS (q0 := 0) (ci := 2) rfl rfl rfl) rfl rfl hl.1 rfl (lv_room (Nat.le_of_ble_eq_true rfl)) dX2_placeOf_2 ⟨Nat.le_of_ble_eq_true rfl, Nat.le_of_ble_eq_true rfl⟩) hD hS hA (fun r u H locs hp hP hD hS => ?_)
  obtain ⟨rfl, hu9⟩ := hp
  rw [hu9] at hP hD
  refine x_ifeq (tgt := 16) hx hb dX2_placeOf_5 (by decide) (fun c_1 => ?_) (fun c_1 => ?_)
  · rw [if_neg (show ¬ isT t = true by rw [c_1]; decide)] at hP hD
    have hT := c_1
    refine lv_iconst (v := 0) hx hb dX2_placeOf_16 (by decide) ?_
    exact x_iret hx hb hr hlocks hK (uI σ 20 1) hP hD hS ⟨fun _ => ⟨rfl, rfl⟩, fun j hj e9 => (isT_ff hT hj e9).elim⟩ dX2_placeOf_17
  · rw [if_pos c_1] at hP hD
    have hT := c_1
    obtain ⟨k, hk, rfl⟩ := isT_nI c_1
    have hl : lv_has ls 2 [(0, .ref bx), (1, .int (nI k))] := hl
    refine lv_aload_n hx hb dX2_placeOf_8 rfl (lv_at hl 0 rfl) ?_
    refine lv_iload_n hx hb dX2_placeOf_9 rfl (lv_at hl 1 rfl) ?_
    refine x_calli (va_runV (As := [.int (nI k)]) (rest := []) ⟨hx, hb, hml, hown, hts⟩ (k_X2_place l D bx ba cI cJ cZ H.size (uI σ 20 0) hk) (cwV 1 hts gX2_placeOf_X2_place rfl rfl rfl (by decide +kernel) ⟨Nat.le_of_ble_eq_true rfl, Nat.le_of_ble_eq_true rfl⟩) (xPreV mE_ok hE hK hA hP hD hS (q0 := 0) (ci := 2) rfl rfl rfl) rfl rfl hl.1 rfl (lv_room (Nat.le_of_ble_eq_true rfl)) dX2_placeOf_10 ⟨Nat.le_of_ble_eq_true rfl, Nat.le_of_ble_eq_true rfl⟩) hD hS hA (fun r u H locs hp hP hD hS => ?_)
    obtain ⟨rfl, hu9⟩ := hp
    rw [hu9] at hP hD
    refine lv_goto (tgt := 17) hx hb dX2_placeOf_13 (by decide) ?_
    exact x_iret hx hb hr hlocks hK (uI σ 20 0) hP hD hS ⟨fun h9 => absurd h9 (by first | decide | (rw [hT]; decide)), fun j hj e9 => by rw [← nI_inj32 hk hj e9]; exact ⟨rfl, rfl⟩⟩ dX2_placeOf_17
set_option maxHeartbeats 4000000 in
set_option maxRecDepth 100000 in
theorem k_X2_leaving (l : Launch) (D : va_G) (bx : Nat) (ba : Nat → Nat) (cI cJ cZ : ClassId) (sz : Nat) (σ : St) (t : Int32) : Met l yX2_leaving wsX2_leaving ({ frames := 3, cells := 0, slots := 0, locals := 120 } : Room) (va_Pc [.ref bx, .int t] (xPre D (mT cI cJ cZ) mE (mW bx ba cI cJ cZ) σ sz)) (va_Qi (fun (r : Int32) (u : St) => ∀ o, o = (if t < 0 then none else atR σ t 32) → (o = none → r = 0 ∧ u = uI σ 20 1) ∧ (∀ k, o = some k → r = nI k ∧ u = uI σ 20 0)) (xB D (mT cI cJ cZ) (mW bx ba cI cJ cZ) (va_A (mW bx ba cI cJ cZ σ) sz)) (va_A (mW bx ba cI cJ cZ σ) sz)) 0 0 (va_A (mW bx ba cI cJ cZ σ) sz) := by
  refine xOpen (w := (mW bx ba cI cJ cZ)) (σ := σ) (cc := cX2_leaving) (maxL := 3) (ret := some .int) (QQ := fun A => va_Qi (fun (r : Int32) (u : St) => ∀ o, o = (if t < 0 then none else atR σ t 32) → (o = none → r = 0 ∧ u = uI σ 20 1) ∧ (∀ k, o = some k → r = nI k ∧ u = uI σ 20 0)) (xB D (mT cI cJ cZ) (mW bx ba cI cJ cZ) A) A) (by decide) rfl (Nat.le_of_ble_eq_true rfl) ?_
  intro p e s m below meth c A hx hb hr hml hown hts hlocks hname hK hE hA hP hD hS ls hl
  have hl : lv_has ls 3 [(0, .ref bx), (1, .int t)] := hl
  have hown : s.vm.findClass RX2 = some m.cls := hown
  have hi2 : ∀ w ∈ wsX20, w ∈ wsX2_leaving := (fun _ h => List.mem_cons_of_mem _ (List.mem_append_right _ h))
  generalize hH : s.heap = H at hP
  have hS : va_S A s.heap H [] := by rw [← hH]; exact va_S.rf
  generalize hlo : ([] : List Loc) = locs at hS
  refine lv_iload_n hx hb dX2_leaving_0 rfl (lv_at hl 1 rfl) ?_
  refine x_if_ge (tgt := 8) hx hb dX2_leaving_1 (by decide) (fun c_1 => ?_) (fun c_1 => ?_)
  · refine lv_aload_n hx hb dX2_leaving_8 rfl (lv_at hl 0 rfl) ?_
    refine lv_iload_n hx hb dX2_leaving_9 rfl (lv_at hl 1 rfl) ?_
    refine x_calli (va_runV (As := [.int t]) (rest := []) ⟨hx, hb, hml, hown, hts⟩ (k_X2_at l D bx ba cI cJ cZ H.size σ t) (cwV 1 hts gX2_leaving_X2_at rfl rfl rfl (by decide +kernel) ⟨Nat.le_of_ble_eq_true rfl, Nat.le_of_ble_eq_true rfl⟩) (xPreV mE_ok hE hK hA hP hD hS (q0 := 0) (ci := 2) rfl rfl rfl) rfl rfl hl.1 rfl (lv_room (Nat.le_of_ble_eq_true rfl)) dX2_leaving_10 ⟨Nat.le_of_ble_eq_true rfl, Nat.le_of_ble_eq_true rfl⟩) hD hS hA (fun r u H locs hp hP hD hS => ?_)
    obtain ⟨rfl, hu9⟩ := hp
    rw [hu9] at hP hD
    refine lv_istore_n (lv' := [(2, .int (oI (atR σ t 32))), (0, .ref bx), (1, .int t)]) hx hb dX2_leaving_13 rfl hl (by decide) rfl (fun ls hl => ?_)
    refine lv_aload_n hx hb dX2_leaving_14 rfl (lv_at hl 1 rfl) ?_
    refine lv_iload_n hx hb dX2_leaving_15 rfl (lv_at hl 0 rfl) ?_
    refine lv_iconst (v := (-1)) hx hb dX2_leaving_16 (by decide) ?_
    refine lv_icmp_ne (tgt := 24) hx hb dX2_leaving_17 (by decide) (fun c_2 => ?_) (fun c_2 => ?_)
    · refine lv_iconst (v := 0) hx hb dX2_leaving_24 (by decide) ?_
      refine m_put hx hb hts hi2 hown hK hP hD hS 21 (by decide) (List.mem_of_getElem? (i := 1) rfl) (v := .int 0) (ty := .int) (uI σ 20 0) (mF_21 bx ba cI cJ cZ _ _) rfl (by decide +kernel) rfl rfl dX2_leaving_25 (fun _ h => h) (fun H locs hP hD hS => ?_)
      refine lv_aload_n hx hb dX2_leaving_28 rfl (lv_at hl 1 rfl) ?_
      refine m_get hx hb hts hi2 hown hK hP 21 (by decide) (List.mem_of_getElem? (i := 1) rfl) (v := .int 0) rfl dX2_leaving_29 (fun _ h => h) ?_
      refine lv_if_ne (tgt := 39) hx hb dX2_leaving_32 (by decide) (fun c_3 => absurd (by decide) c_3) (fun _ => ?_)
      refine lv_iload_n hx hb dX2_leaving_35 rfl (lv_at hl 0 rfl) ?_
      refine lv_goto (tgt := 40) hx hb dX2_leaving_36 (by decide) ?_
      exact x_iret hx hb hr hlocks hK (uI σ 20 0) hP hD hS (fun o ho => by rw [if_neg c_1] at ho; subst ho; exact ⟨fun h9 => absurd ((oI_neg (fun _ h => atR_lt h)).mpr h9) c_2, fun k9 h9 => ⟨by rw [h9]; rfl, rfl⟩⟩) dX2_leaving_40
    · refine lv_iconst (v := 1) hx hb dX2_leaving_20 (by decide) ?_
      refine lv_goto (tgt := 25) hx hb dX2_leaving_21 (by decide) ?_
      refine m_put hx hb hts hi2 hown hK hP hD hS 21 (by decide) (List.mem_of_getElem? (i := 1) rfl) (v := .int 1) (ty := .int) (uI σ 20 1) (mF_21 bx ba cI cJ cZ _ _) rfl (by decide +kernel) rfl rfl dX2_leaving_25 (fun _ h => h) (fun H locs hP hD hS => ?_)
      refine lv_aload_n hx hb dX2_leaving_28 rfl (lv_at hl 1 rfl) ?_
      refine m_get hx hb hts hi2 hown hK hP 21 (by decide) (List.mem_of_getElem? (i := 1) rfl) (v := .int 1) rfl dX2_leaving_29 (fun _ h => h) ?_
      refine lv_if_ne (tgt := 39) hx hb dX2_leaving_32 (by decide) (fun _ => ?_) (fun c_4 => absurd c_4 (by decide))
      refine lv_iconst (v := 0) hx hb dX2_leaving_39 (by decide) ?_
      exact x_iret hx hb hr hlocks hK (uI σ 20 1) hP hD hS (fun o ho => by rw [if_neg c_1, (oI_neg (fun _ h => atR_lt h)).mp c_2] at ho; subst ho; exact ⟨fun _ => ⟨rfl, rfl⟩, fun k9 h9 => nomatch h9⟩) dX2_leaving_40
  · refine lv_iconst (v := (-1)) hx hb dX2_leaving_4 (by decide) ?_
    refine lv_goto (tgt := 13) hx hb dX2_leaving_5 (by decide) ?_
    refine lv_istore_n (lv' := [(2, .int (-1)), (0, .ref bx), (1, .int t)]) hx hb dX2_leaving_13 rfl hl (by decide) rfl (fun ls hl => ?_)
    refine lv_aload_n hx hb dX2_leaving_14 rfl (lv_at hl 1 rfl) ?_
    refine lv_iload_n hx hb dX2_leaving_15 rfl (lv_at hl 0 rfl) ?_
    refine lv_iconst (v := (-1)) hx hb dX2_leaving_16 (by decide) ?_
    refine lv_icmp_ne (tgt := 24) hx hb dX2_leaving_17 (by decide) (fun c_5 => absurd (by decide) c_5) (fun _ => ?_)
    refine lv_iconst (v := 1) hx hb dX2_leaving_20 (by decide) ?_
    refine lv_goto (tgt := 25) hx hb dX2_leaving_21 (by decide) ?_
    refine m_put hx hb hts hi2 hown hK hP hD hS 21 (by decide) (List.mem_of_getElem? (i := 1) rfl) (v := .int 1) (ty := .int) (uI σ 20 1) (mF_21 bx ba cI cJ cZ _ _) rfl (by decide +kernel) rfl rfl dX2_leaving_25 (fun _ h => h) (fun H locs hP hD hS => ?_)
    refine lv_aload_n hx hb dX2_leaving_28 rfl (lv_at hl 1 rfl) ?_
    refine m_get hx hb hts hi2 hown hK hP 21 (by decide) (List.mem_of_getElem? (i := 1) rfl) (v := .int 1) rfl dX2_leaving_29 (fun _ h => h) ?_
    refine lv_if_ne (tgt := 39) hx hb dX2_leaving_32 (by decide) (fun _ => ?_) (fun c_6 => absurd c_6 (by decide))
    refine lv_iconst (v := 0) hx hb dX2_leaving_39 (by decide) ?_
    exact x_iret hx hb hr hlocks hK (uI σ 20 1) hP hD hS (fun o ho => by rw [if_pos c_1] at ho; subst ho; exact ⟨fun _ => ⟨rfl, rfl⟩, fun k9 h9 => nomatch h9⟩) dX2_leaving_40
set_option maxHeartbeats 4000000 in
set_option maxRecDepth 100000 in
theorem k_X2_endsFirst (l : Launch) (D : va_G) (bx : Nat) (ba : Nat → Nat) (cI cJ cZ : ClassId) (sz : Nat) (σ : St) : Met l yX2_endsFirst wsX2_endsFirst ({ frames := 0, cells := 0, slots := 0, locals := 0 } : Room) (va_Pc [.ref bx] (xPre D (mT cI cJ cZ) mE (mW bx ba cI cJ cZ) σ sz)) (va_Qi (fun (r : Int32) (u : St) => r = oI (efR σ 32) ∧ u = uI σ 20 0) (xB D (mT cI cJ cZ) (mW bx ba cI cJ cZ) (va_A (mW bx ba cI cJ cZ σ) sz)) (va_A (mW bx ba cI cJ cZ σ) sz)) 0 0 (va_A (mW bx ba cI cJ cZ σ) sz) := by
  refine xOpen (w := (mW bx ba cI cJ cZ)) (σ := σ) (cc := cX2_endsFirst) (maxL := 3) (ret := some .int) (QQ := fun A => va_Qi (fun (r : Int32) (u : St) => r = oI (efR σ 32) ∧ u = uI σ 20 0) (xB D (mT cI cJ cZ) (mW bx ba cI cJ cZ) A) A) (by decide) rfl (Nat.le_of_ble_eq_true rfl) ?_
  intro p e s m below meth c A hx hb hr hml hown hts hlocks hname hK hE hA hP hD hS ls hl
  have hl : lv_has ls 3 [(0, .ref bx)] := hl
  have hown : s.vm.findClass RX2 = some m.cls := hown
  have hi2 : ∀ w ∈ wsX20, w ∈ wsX2_endsFirst := (fun _ h => List.mem_cons_of_mem _ (List.mem_append_right _ h))
  generalize hH : s.heap = H at hP
  have hS : va_S A s.heap H [] := by rw [← hH]; exact va_S.rf
  generalize hlo : ([] : List Loc) = locs at hS
  refine lv_aload_n hx hb dX2_endsFirst_0 rfl (lv_at hl 0 rfl) ?_
  refine lv_iconst (v := 0) hx hb dX2_endsFirst_1 (by decide) ?_
  refine m_put hx hb hts hi2 hown hK hP hD hS 21 (by decide) (List.mem_of_getElem? (i := 1) rfl) (v := .int 0) (ty := .int) (uI σ 20 0) (mF_21 bx ba cI cJ cZ _ _) rfl (by decide +kernel) rfl rfl dX2_endsFirst_2 (fun _ h => h) (fun H locs hP hD hS => ?_)
  refine lv_iconst (v := (-1)) hx hb dX2_endsFirst_5 (by decide) ?_
  refine lv_istore_n (lv' := [(1, .int (-1)), (0, .ref bx)]) hx hb dX2_endsFirst_6 rfl hl (by decide) rfl (fun ls hl => ?_)
  refine lv_iconst (v := 0) hx hb dX2_endsFirst_7 (by decide) ?_
  refine lv_istore_n (lv' := [(2, .int 0), (1, .int (-1)), (0, .ref bx)]) hx hb dX2_endsFirst_8 rfl hl (by decide) rfl (fun ls hl => ?_)
  have loop : ∀ (n i : Nat) (ls : Array Slot), i ≤ 32 → 32 - i < n → lv_has ls 3 [(0, .ref bx), (1, .int (oI (efR σ i))), (2, .int (nI i))] → W p l e (headSpec wsX2_endsFirst ({ frames := 0, cells := 0, slots := 0, locals := 0 } : Room)).room s m [.ref bx].toArray below meth c H locs 0 0 (MQ below (va_Qi (fun (r : Int32) (u : St) => r = oI (efR σ 32) ∧ u = uI σ 20 0) (xB D (mT cI cJ cZ) (mW bx ba cI cJ cZ) A) A) [.ref bx].toArray s 0 0 A) (F0 m 9 ls []) := by
    intro n
    induction n with
    | zero =>
      intro i ls h1 h2
      exact absurd h2 (by omega)
    | succ n ih =>
      intro i ls hi hn hl
      refine lv_iload_n hx hb dX2_endsFirst_9 rfl (lv_at hl 2 rfl) ?_
      refine lv_bipush (v := 32) hx hb dX2_endsFirst_10 (by decide) ?_
      refine x_icmp_ge (tgt := 56) hx hb dX2_endsFirst_12 (by decide) (fun c_1 => ?_) (fun c_1 => ?_)
      · have hi9 : i = 32 := by
          rcases Nat.lt_or_ge i 32 with q | q
          · exact absurd ((nI_lt32 hi).mpr q) c_1
          · omega
        subst hi9
        refine lv_iload_n hx hb dX2_endsFirst_56 rfl (lv_at hl 1 rfl) ?_
        exact x_iret hx hb hr hlocks hK (uI σ 20 0) hP hD hS ⟨rfl, rfl⟩ dX2_endsFirst_57
      · have hlt : i < 32 := (nI_lt32 hi).mp c_1
        refine lv_aload_n hx hb dX2_endsFirst_15 rfl (lv_at hl 0 rfl) ?_
        refine m_get hx hb hts hi2 hown hK hP 5 (by decide) (List.mem_of_getElem? (i := 2) rfl) (v := .ref (ba 0)) rfl dX2_endsFirst_16 (fun _ h => h) ?_
        refine lv_iload_n hx hb dX2_endsFirst_19 rfl (lv_at hl 2 rfl) ?_
        refine m_ld0 hx hb hK hP hlt dX2_endsFirst_20 ?_
        refine W.eq (g2 := F0 m 21 ls [.int (bI (gB σ 1 i))]) rfl ?_
        refine x_ifeq (tgt := 48) hx hb dX2_endsFirst_21 (by decide) (fun c_2 => ?_) (fun c_2 => ?_)
        · refine lv_iload_n hx hb dX2_endsFirst_48 rfl (lv_at hl 1 rfl) ?_
          refine lv_istore_n (lv' := [(1, .int (oI (efR σ i))), (0, .ref bx), (2, .int (nI i))]) hx hb dX2_endsFirst_49 rfl hl (by decide) rfl (fun ls hl => ?_)
          refine lv_iinc (v := (nI i) + 1) (lv' := [(2, .int ((nI i) + 1)), (1, .int (oI (efR σ i))), (0, .ref bx)]) hx hb dX2_endsFirst_50 hl (k := 2) rfl rfl (by decide) rfl (fun ls hl => ?_)
          refine lv_goto (tgt := 9) hx hb dX2_endsFirst_53 (by decide) ?_
          have e9_0 : oI (efR σ (i + 1)) = oI (efR σ i) := by rw [efR_s]; simp [endO, oI, c_1, c_2]
          exact ih (i + 1) ls (by omega) (by omega) (by rw [e9_0, nI_succ]; exact lv_sub hl [2, 1, 0] rfl)
        · refine lv_iload_n hx hb dX2_endsFirst_24 rfl (lv_at hl 1 rfl) ?_
          refine lv_iconst (v := (-1)) hx hb dX2_endsFirst_25 (by decide) ?_
          refine lv_icmp_eq (tgt := 44) hx hb dX2_endsFirst_26 (by decide) (fun c_3 => ?_) (fun c_3 => ?_)
          · have hn9 : efR σ i = none := (oI_neg (fun _ h => Nat.lt_of_lt_of_le (efR_lt _ _ _ h) hi)).mp c_3
            refine lv_iload_n hx hb dX2_endsFirst_44 rfl (lv_at hl 2 rfl) ?_
            refine lv_goto (tgt := 49) hx hb dX2_endsFirst_45 (by decide) ?_
            refine lv_istore_n (lv' := [(1, .int (nI i)), (0, .ref bx), (2, .int (nI i))]) hx hb dX2_endsFirst_49 rfl hl (by decide) rfl (fun ls hl => ?_)
            refine lv_iinc (v := (nI i) + 1) (lv' := [(2, .int ((nI i) + 1)), (1, .int (nI i)), (0, .ref bx)]) hx hb dX2_endsFirst_50 hl (k := 2) rfl rfl (by decide) rfl (fun ls hl => ?_)
            refine lv_goto (tgt := 9) hx hb dX2_endsFirst_53 (by decide) ?_
            have e9_0 : oI (efR σ (i + 1)) = nI i := by rw [efR_s, hn9]; simp [endO, oI, c_1, c_2, c_3]
            exact ih (i + 1) ls (by omega) (by omega) (by rw [e9_0, nI_succ]; exact lv_sub hl [2, 1, 0] rfl)
          · obtain ⟨m9, hm9⟩ : ∃ m9, efR σ i = some m9 := by
              cases h9 : efR σ i with
              | none => exact absurd (by rw [h9]; rfl) c_3
              | some m9 => exact ⟨m9, rfl⟩
            have hm32 : m9 < 32 := Nat.lt_of_lt_of_le (efR_lt _ _ _ hm9) hi
            rw [hm9] at hl
            have hl : lv_has ls 3 [(0, .ref bx), (1, .int (nI m9)), (2, .int (nI i))] := hl
            refine lv_aload_n hx hb dX2_endsFirst_29 rfl (lv_at hl 0 rfl) ?_
            refine m_get hx hb hts hi2 hown hK hP 11 (by decide) (List.mem_of_getElem? (i := 3) rfl) (v := .ref (ba 6)) rfl dX2_endsFirst_30 (fun _ h => h) ?_
            refine lv_iload_n hx hb dX2_endsFirst_33 rfl (lv_at hl 2 rfl) ?_
            refine m_ld6 hx hb hK hP hlt dX2_endsFirst_34 ?_
            refine W.eq (g2 := F0 m 35 ls [.int (gS σ 5 i)]) rfl ?_
            refine lv_aload_n hx hb dX2_endsFirst_35 rfl (lv_at hl 0 rfl) ?_
            refine m_get hx hb hts hi2 hown hK hP 11 (by decide) (List.mem_of_getElem? (i := 3) rfl) (v := .ref (ba 6)) rfl dX2_endsFirst_36 (fun _ h => h) ?_
            refine lv_iload_n hx hb dX2_endsFirst_39 rfl (lv_at hl 1 rfl) ?_
            refine m_ld6 hx hb hK hP hm32 dX2_endsFirst_40 ?_
            refine W.eq (g2 := F0 m 41 ls [.int (gS σ 5 m9), .int (gS σ 5 i)]) rfl ?_
            refine x_icmp_ge (tgt := 48) hx hb dX2_endsFirst_41 (by decide) (fun c_4 => ?_) (fun c_4 => ?_)
            · refine lv_iload_n hx hb dX2_endsFirst_48 rfl (lv_at hl 1 rfl) ?_
              refine lv_istore_n (lv' := [(1, .int (nI m9)), (0, .ref bx), (2, .int (nI i))]) hx hb dX2_endsFirst_49 rfl hl (by decide) rfl (fun ls hl => ?_)
              refine lv_iinc (v := (nI i) + 1) (lv' := [(2, .int ((nI i) + 1)), (1, .int (nI m9)), (0, .ref bx)]) hx hb dX2_endsFirst_50 hl (k := 2) rfl rfl (by decide) rfl (fun ls hl => ?_)
              refine lv_goto (tgt := 9) hx hb dX2_endsFirst_53 (by decide) ?_
              have e9_0 : oI (efR σ (i + 1)) = nI m9 := by rw [efR_s, hm9]; simp [endO, oI, c_1, c_2, c_3, c_4]
              exact ih (i + 1) ls (by omega) (by omega) (by rw [e9_0, nI_succ]; exact lv_sub hl [2, 1, 0] rfl)
            · refine lv_iload_n hx hb dX2_endsFirst_44 rfl (lv_at hl 2 rfl) ?_
              refine lv_goto (tgt := 49) hx hb dX2_endsFirst_45 (by decide) ?_
              refine lv_istore_n (lv' := [(1, .int (nI i)), (0, .ref bx), (2, .int (nI i))]) hx hb dX2_endsFirst_49 rfl hl (by decide) rfl (fun ls hl => ?_)
              refine lv_iinc (v := (nI i) + 1) (lv' := [(2, .int ((nI i) + 1)), (1, .int (nI i)), (0, .ref bx)]) hx hb dX2_endsFirst_50 hl (k := 2) rfl rfl (by decide) rfl (fun ls hl => ?_)
              refine lv_goto (tgt := 9) hx hb dX2_endsFirst_53 (by decide) ?_
              have e9_0 : oI (efR σ (i + 1)) = nI i := by rw [efR_s, hm9]; simp [endO, oI, c_1, c_2, c_3, c_4]
              exact ih (i + 1) ls (by omega) (by omega) (by rw [e9_0, nI_succ]; exact lv_sub hl [2, 1, 0] rfl)
  exact loop 33 0 _ (Nat.zero_le _) (by decide) (lv_sub hl [2, 1, 0] rfl)
