theorem ord_N {σ : St} {L : List Nat} (hO : Ord σ) (h : SR σ (inO σ) L) {j : Nat} (hj : j < 32) : ∃ N, N < 64 ∧ (∀ i, i < N → nI i < nI j ∧ nth σ i ≠ none) ∧ (N = j ∨ (N ≤ j ∧ nth σ N = none)) := by
  rcases Nat.lt_or_ge j L.length with g | g
  · refine ⟨j, by omega, fun i hi => ⟨nI_lt hi (by omega), fun q => ?_⟩, Or.inl rfl⟩
    rw [nth_row hO h, List.getElem?_eq_none_iff] at q
    omega
  · refine ⟨L.length, by omega, fun i hi => ⟨nI_lt (by omega) (by omega), fun q => ?_⟩, Or.inr ⟨g, by rw [nth_row hO h]; exact List.getElem?_eq_none (Nat.le_refl _)⟩⟩
    rw [nth_row hO h, List.getElem?_eq_none_iff] at q
    omega
set_option maxHeartbeats 4000000 in
set_option maxRecDepth 100000 in
theorem k_L_told0 (l : Launch) (D : va_G) (ax ar : Nat) (ad : Nat → Nat) (cO : ClassId) (sz : Nat) (σ : St) {k : Nat} (hk : k < 32) (b : Bool) (hfl : l.stackTraces = false) : Met l yL_told wsL_told ({ frames := 9, cells := 2, slots := 12, locals := 200 } : Room) (va_Pc [.ref ax, .int 0, .int (nI k), .int (bI b)] (xPre D (cT cO) xE (cW ax ar ad cO) σ sz)) (va_Qi (fun (r : Int32) (u : St) => (gB σ 1 k = true → r = bI (gB σ 2 k) ∧ u = uB σ 2 k b) ∧ (gB σ 1 k = false → r = -13 ∧ u = σ)) (xB D (cT cO) (cW ax ar ad cO) (va_A (cW ax ar ad cO σ) sz)) (va_A (cW ax ar ad cO σ) sz)) 2 12 (va_A (cW ax ar ad cO σ) sz) := by
  refine xwOpen (w := (cW ax ar ad cO)) (σ := σ) (cc := cL_told) (maxL := 5) (ret := some .int) (hh := [(0, 61, 62, 59)]) (QQ := fun A => va_Qi (fun (r : Int32) (u : St) => (gB σ 1 k = true → r = bI (gB σ 2 k) ∧ u = uB σ 2 k b) ∧ (gB σ 1 k = false → r = -13 ∧ u = σ)) (xB D (cT cO) (cW ax ar ad cO) A) A) (by decide) rfl (Nat.le_of_ble_eq_true rfl) ?_
  intro p e s m below meth c A hx hb hr hml hown hts hlocks htab hK hE hA hP hD hS ls hl
  have hl : lv_has ls 5 [(0, .ref ax), (1, .int 0), (2, .int (nI k)), (3, .int (bI b))] := hl
  have hown : s.vm.findClass RL = some m.cls := hown
  generalize hH : s.heap = H at hP
  have hS : va_S A s.heap H [] := by rw [← hH]; exact va_S.rf
  generalize hlo : ([] : List Loc) = locs at hS
  refine lv_iload_n hx hb dL_told_0 rfl (lv_at hl 1 rfl) ?_
  refine lv_if_ne (tgt := 30) hx hb dL_told_1 (by decide) (fun c_1 => absurd (by decide) c_1) (fun _ => ?_)
  refine lv_aload_n hx hb dL_told_4 rfl (lv_at hl 0 rfl) ?_
  refine lv_iload_n hx hb dL_told_5 rfl (lv_at hl 2 rfl) ?_
  refine lv_iload_n hx hb dL_told_6 rfl (lv_at hl 3 rfl) ?_
  refine lv_iconst (v := 1) hx hb dL_told_7 (by decide) ?_
  refine lv_icmp_ne (tgt := 15) hx hb dL_told_8 (by decide) (fun c_2 => ?_) (fun c_2 => ?_)
  · refine lv_iconst (v := 0) hx hb dL_told_15 (by decide) ?_
    have hb9 : b = false := by cases h9 : b with | false => rfl | true => exact absurd (bI_1.mpr h9) c_2
    refine W.eq (g2 := F0 m 16 ls [.int (bI b), .int (nI k), .ref ax]) (by rw [hb9]; rfl) ?_
    refine xx_calli (vx_runV (As := [.int (nI k), .int (bI b)]) (rest := []) ⟨hx, hb, hml, hown, hts⟩ (k_X1_pin l D ax ar ad cO H.size σ (nI k) b hfl) (cwV 2 hts gL_told_X1_pin rfl rfl rfl (by decide +kernel) ⟨Nat.le_of_ble_eq_true rfl, Nat.le_of_ble_eq_true rfl⟩) (xPreV xE_ok hE hK hA hP hD hS (q0 := 0) (ci := 1) rfl rfl rfl) rfl rfl hl.1 rfl (lv_room (Nat.le_of_ble_eq_true rfl)) dL_told_16 ⟨Nat.le_of_ble_eq_true rfl, Nat.le_of_ble_eq_true rfl⟩) hD hS hA (fun En ce q9 H locs hxc hP hS hq9 hv9 hcl9 => ?_) (fun r u H locs hp hP hD hS => ?_)
    · rcases hxc with ⟨rfl, hc9⟩ | ⟨rfl, hc9, hc8⟩
      · exact absurd (hc9.symm.trans (isT_of hk)) (by decide)
      · refine vx_catch (name := xIS) hown [] ⟨0, 61, 62, 59⟩ [] (by rw [htab]; rfl) (fun z hz => nomatch hz) (by decide) (by decide) (hts (.classLink RL 59 "java/lang/IllegalStateException") (List.mem_of_getElem? (i := 1) rfl)) (va_Nw.use rfl (hE.1.2.2.2.1 xIS (List.mem_of_getElem? (i := 2) rfl))) hq9 hv9 hcl9 ?_
        refine lv_astore (lv' := [(4, .ref q9), (0, .ref ax), (1, .int 0), (2, .int (nI k)), (3, .int (bI b))]) hx hb dL_told_62 hl (by decide) rfl (fun ls hl => ?_)
        refine lv_bipush (v := -13) hx hb dL_told_64 (by decide) ?_
        exact x_iret hx hb hr hlocks hK (σ) hP hD hS (⟨fun q => absurd ((hc8 k hk rfl).symm.trans q) (by decide), fun _ => ⟨rfl, rfl⟩⟩) dL_told_66
    · obtain ⟨-, hq⟩ := hp
      obtain ⟨hF, rfl, hu9⟩ := hq k hk rfl
      rw [hu9] at hP hD
      refine x_ifeq (tgt := 26) hx hb dL_told_19 (by decide) (fun c_3 => ?_) (fun c_3 => ?_)
      · refine lv_iconst (v := 0) hx hb dL_told_26 (by decide) ?_
        refine lv_goto (tgt := 61) hx hb dL_told_27 (by decide) ?_
        refine W.widen (k := 2) (n := 12) (by decide) (by decide) ?_
        exact x_iret hx hb hr hlocks hK (uB σ 2 k b) hP hD hS (⟨fun _ => ⟨by rw [c_3]; rfl, rfl⟩, fun q => absurd (hF.symm.trans q) (by decide)⟩) dL_told_61
      · refine lv_iconst (v := 1) hx hb dL_told_22 (by decide) ?_
        refine lv_goto (tgt := 61) hx hb dL_told_23 (by decide) ?_
        refine W.widen (k := 2) (n := 12) (by decide) (by decide) ?_
        exact x_iret hx hb hr hlocks hK (uB σ 2 k b) hP hD hS (⟨fun _ => ⟨by rw [c_3]; rfl, rfl⟩, fun q => absurd (hF.symm.trans q) (by decide)⟩) dL_told_61
  · refine lv_iconst (v := 1) hx hb dL_told_11 (by decide) ?_
    refine lv_goto (tgt := 16) hx hb dL_told_12 (by decide) ?_
    have hb9 : b = true := bI_1.mp c_2
    refine W.eq (g2 := F0 m 16 ls [.int (bI b), .int (nI k), .ref ax]) (by rw [hb9]; rfl) ?_
    refine xx_calli (vx_runV (As := [.int (nI k), .int (bI b)]) (rest := []) ⟨hx, hb, hml, hown, hts⟩ (k_X1_pin l D ax ar ad cO H.size σ (nI k) b hfl) (cwV 2 hts gL_told_X1_pin rfl rfl rfl (by decide +kernel) ⟨Nat.le_of_ble_eq_true rfl, Nat.le_of_ble_eq_true rfl⟩) (xPreV xE_ok hE hK hA hP hD hS (q0 := 0) (ci := 1) rfl rfl rfl) rfl rfl hl.1 rfl (lv_room (Nat.le_of_ble_eq_true rfl)) dL_told_16 ⟨Nat.le_of_ble_eq_true rfl, Nat.le_of_ble_eq_true rfl⟩) hD hS hA (fun En ce q9 H locs hxc hP hS hq9 hv9 hcl9 => ?_) (fun r u H locs hp hP hD hS => ?_)
    · rcases hxc with ⟨rfl, hc9⟩ | ⟨rfl, hc9, hc8⟩
      · exact absurd (hc9.symm.trans (isT_of hk)) (by decide)
      · refine vx_catch (name := xIS) hown [] ⟨0, 61, 62, 59⟩ [] (by rw [htab]; rfl) (fun z hz => nomatch hz) (by decide) (by decide) (hts (.classLink RL 59 "java/lang/IllegalStateException") (List.mem_of_getElem? (i := 1) rfl)) (va_Nw.use rfl (hE.1.2.2.2.1 xIS (List.mem_of_getElem? (i := 2) rfl))) hq9 hv9 hcl9 ?_
        refine lv_astore (lv' := [(4, .ref q9), (0, .ref ax), (1, .int 0), (2, .int (nI k)), (3, .int (bI b))]) hx hb dL_told_62 hl (by decide) rfl (fun ls hl => ?_)
        refine lv_bipush (v := -13) hx hb dL_told_64 (by decide) ?_
        exact x_iret hx hb hr hlocks hK (σ) hP hD hS (⟨fun q => absurd ((hc8 k hk rfl).symm.trans q) (by decide), fun _ => ⟨rfl, rfl⟩⟩) dL_told_66
    · obtain ⟨-, hq⟩ := hp
      obtain ⟨hF, rfl, hu9⟩ := hq k hk rfl
      rw [hu9] at hP hD
      refine x_ifeq (tgt := 26) hx hb dL_told_19 (by decide) (fun c_4 => ?_) (fun c_4 => ?_)
      · refine lv_iconst (v := 0) hx hb dL_told_26 (by decide) ?_
        refine lv_goto (tgt := 61) hx hb dL_told_27 (by decide) ?_
        refine W.widen (k := 2) (n := 12) (by decide) (by decide) ?_
        exact x_iret hx hb hr hlocks hK (uB σ 2 k b) hP hD hS (⟨fun _ => ⟨by rw [c_4]; rfl, rfl⟩, fun q => absurd (hF.symm.trans q) (by decide)⟩) dL_told_61
      · refine lv_iconst (v := 1) hx hb dL_told_22 (by decide) ?_
        refine lv_goto (tgt := 61) hx hb dL_told_23 (by decide) ?_
        refine W.widen (k := 2) (n := 12) (by decide) (by decide) ?_
        exact x_iret hx hb hr hlocks hK (uB σ 2 k b) hP hD hS (⟨fun _ => ⟨by rw [c_4]; rfl, rfl⟩, fun q => absurd (hF.symm.trans q) (by decide)⟩) dL_told_61
set_option maxHeartbeats 4000000 in
set_option maxRecDepth 100000 in
theorem k_L_told1 (l : Launch) (D : va_G) (ax ar : Nat) (ad : Nat → Nat) (cO : ClassId) (sz : Nat) (σ : St) {k : Nat} (hk : k < 32) (b : Int32) (hfl : l.stackTraces = false) : Met l yL_told wsL_told ({ frames := 9, cells := 2, slots := 12, locals := 200 } : Room) (va_Pc [.ref ax, .int 1, .int (nI k), .int b] (xPre D (cT cO) xE (cW ax ar ad cO) σ sz)) (va_Qi (fun (r : Int32) (u : St) => (gB σ 1 k = true → r = gS σ 3 k ∧ u = uB σ 1 k false) ∧ (gB σ 1 k = false → r = -13 ∧ u = σ)) (xB D (cT cO) (cW ax ar ad cO) (va_A (cW ax ar ad cO σ) sz)) (va_A (cW ax ar ad cO σ) sz)) 2 12 (va_A (cW ax ar ad cO σ) sz) := by
  refine xwOpen (w := (cW ax ar ad cO)) (σ := σ) (cc := cL_told) (maxL := 5) (ret := some .int) (hh := [(0, 61, 62, 59)]) (QQ := fun A => va_Qi (fun (r : Int32) (u : St) => (gB σ 1 k = true → r = gS σ 3 k ∧ u = uB σ 1 k false) ∧ (gB σ 1 k = false → r = -13 ∧ u = σ)) (xB D (cT cO) (cW ax ar ad cO) A) A) (by decide) rfl (Nat.le_of_ble_eq_true rfl) ?_
  intro p e s m below meth c A hx hb hr hml hown hts hlocks htab hK hE hA hP hD hS ls hl
  have hl : lv_has ls 5 [(0, .ref ax), (1, .int 1), (2, .int (nI k)), (3, .int b)] := hl
  have hown : s.vm.findClass RL = some m.cls := hown
  generalize hH : s.heap = H at hP
  have hS : va_S A s.heap H [] := by rw [← hH]; exact va_S.rf
  generalize hlo : ([] : List Loc) = locs at hS
  refine lv_iload_n hx hb dL_told_0 rfl (lv_at hl 1 rfl) ?_
  refine lv_if_ne (tgt := 30) hx hb dL_told_1 (by decide) (fun _ => ?_) (fun c_1 => absurd c_1 (by decide))
  refine lv_iload_n hx hb dL_told_30 rfl (lv_at hl 1 rfl) ?_
  refine lv_iconst (v := 1) hx hb dL_told_31 (by decide) ?_
  refine lv_icmp_ne (tgt := 43) hx hb dL_told_32 (by decide) (fun c_2 => absurd (by decide) c_2) (fun _ => ?_)
  refine lv_aload_n hx hb dL_told_35 rfl (lv_at hl 0 rfl) ?_
  refine lv_iload_n hx hb dL_told_36 rfl (lv_at hl 2 rfl) ?_
  refine xx_calli (vx_runV (As := [.int (nI k)]) (rest := []) ⟨hx, hb, hml, hown, hts⟩ (k_X1_drop l D ax ar ad cO H.size σ (nI k) hfl) (cwV 1 hts gL_told_X1_drop rfl rfl rfl (by decide +kernel) ⟨Nat.le_of_ble_eq_true rfl, Nat.le_of_ble_eq_true rfl⟩) (xPreV xE_ok hE hK hA hP hD hS (q0 := 0) (ci := 1) rfl rfl rfl) rfl rfl hl.1 rfl (lv_room (Nat.le_of_ble_eq_true rfl)) dL_told_37 ⟨Nat.le_of_ble_eq_true rfl, Nat.le_of_ble_eq_true rfl⟩) hD hS hA (fun En ce q9 H locs hxc hP hS hq9 hv9 hcl9 => ?_) (fun r u H locs hp hP hD hS => ?_)
  · rcases hxc with ⟨rfl, hc9⟩ | ⟨rfl, hc9, hc8⟩
    · exact absurd (hc9.symm.trans (isT_of hk)) (by decide)
    · refine vx_catch (name := xIS) hown [] ⟨0, 61, 62, 59⟩ [] (by rw [htab]; rfl) (fun z hz => nomatch hz) (by decide) (by decide) (hts (.classLink RL 59 "java/lang/IllegalStateException") (List.mem_of_getElem? (i := 1) rfl)) (va_Nw.use rfl (hE.1.2.2.2.1 xIS (List.mem_of_getElem? (i := 2) rfl))) hq9 hv9 hcl9 ?_
      refine lv_astore (lv' := [(4, .ref q9), (0, .ref ax), (1, .int 1), (2, .int (nI k)), (3, .int b)]) hx hb dL_told_62 hl (by decide) rfl (fun ls hl => ?_)
      refine lv_bipush (v := -13) hx hb dL_told_64 (by decide) ?_
      exact x_iret hx hb hr hlocks hK (σ) hP hD hS (⟨fun q => absurd ((hc8 k hk rfl).symm.trans q) (by decide), fun _ => ⟨rfl, rfl⟩⟩) dL_told_66
  · obtain ⟨-, hq⟩ := hp
    obtain ⟨hF, rfl, hu9⟩ := hq k hk rfl
    rw [hu9] at hP hD
    refine lv_goto (tgt := 61) hx hb dL_told_40 (by decide) ?_
    refine W.widen (k := 2) (n := 12) (by decide) (by decide) ?_
    exact x_iret hx hb hr hlocks hK (uB σ 1 k false) hP hD hS (⟨fun _ => ⟨rfl, rfl⟩, fun q => absurd (hF.symm.trans q) (by decide)⟩) dL_told_61
set_option maxHeartbeats 4000000 in
set_option maxRecDepth 100000 in
theorem k_L_told2 (l : Launch) (D : va_G) (ax ar : Nat) (ad : Nat → Nat) (cO : ClassId) (sz : Nat) (σ : St) (t b : Int32) (hT9 : inR t 1 10000 = true) (hfl : l.stackTraces = false) : Met l yL_told wsL_told ({ frames := 9, cells := 2, slots := 12, locals := 200 } : Room) (va_Pc [.ref ax, .int 2, .int t, .int b] (xPre D (cT cO) xE (cW ax ar ad cO) σ sz)) (va_Qi (fun (r : Int32) (u : St) => (t < pinA σ → r = -13 ∧ u = σ) ∧ (¬ t < pinA σ → r = (cSetCap σ t).1 ∧ u = (cSetCap σ t).2)) (xB D (cT cO) (cW ax ar ad cO) (va_A (cW ax ar ad cO σ) sz)) (va_A (cW ax ar ad cO σ) sz)) 2 12 (va_A (cW ax ar ad cO σ) sz) := by
  refine xwOpen (w := (cW ax ar ad cO)) (σ := σ) (cc := cL_told) (maxL := 5) (ret := some .int) (hh := [(0, 61, 62, 59)]) (QQ := fun A => va_Qi (fun (r : Int32) (u : St) => (t < pinA σ → r = -13 ∧ u = σ) ∧ (¬ t < pinA σ → r = (cSetCap σ t).1 ∧ u = (cSetCap σ t).2)) (xB D (cT cO) (cW ax ar ad cO) A) A) (by decide) rfl (Nat.le_of_ble_eq_true rfl) ?_
  intro p e s m below meth c A hx hb hr hml hown hts hlocks htab hK hE hA hP hD hS ls hl
  have hl : lv_has ls 5 [(0, .ref ax), (1, .int 2), (2, .int t), (3, .int b)] := hl
  have hown : s.vm.findClass RL = some m.cls := hown
  generalize hH : s.heap = H at hP
  have hS : va_S A s.heap H [] := by rw [← hH]; exact va_S.rf
  generalize hlo : ([] : List Loc) = locs at hS
  refine lv_iload_n hx hb dL_told_0 rfl (lv_at hl 1 rfl) ?_
  refine lv_if_ne (tgt := 30) hx hb dL_told_1 (by decide) (fun _ => ?_) (fun c_1 => absurd c_1 (by decide))
  refine lv_iload_n hx hb dL_told_30 rfl (lv_at hl 1 rfl) ?_
  refine lv_iconst (v := 1) hx hb dL_told_31 (by decide) ?_
  refine lv_icmp_ne (tgt := 43) hx hb dL_told_32 (by decide) (fun _ => ?_) (fun c_2 => absurd c_2 (by decide))
  refine lv_iload_n hx hb dL_told_43 rfl (lv_at hl 1 rfl) ?_
  refine lv_iconst (v := 2) hx hb dL_told_44 (by decide) ?_
  refine lv_icmp_ne (tgt := 56) hx hb dL_told_45 (by decide) (fun c_3 => absurd (by decide) c_3) (fun _ => ?_)
  refine lv_aload_n hx hb dL_told_48 rfl (lv_at hl 0 rfl) ?_
  refine lv_iload_n hx hb dL_told_49 rfl (lv_at hl 2 rfl) ?_
  refine xx_calli (vx_runV (As := [.int t]) (rest := []) ⟨hx, hb, hml, hown, hts⟩ (k_X1_setCapacity l D ax ar ad cO H.size σ t hfl) (cwV 1 hts gL_told_X1_setCapacity rfl rfl rfl (by decide +kernel) ⟨Nat.le_of_ble_eq_true rfl, Nat.le_of_ble_eq_true rfl⟩) (xPreV xE_ok hE hK hA hP hD hS (q0 := 0) (ci := 1) rfl rfl rfl) rfl rfl hl.1 rfl (lv_room (Nat.le_of_ble_eq_true rfl)) dL_told_50 ⟨Nat.le_of_ble_eq_true rfl, Nat.le_of_ble_eq_true rfl⟩) hD hS hA (fun En ce q9 H locs hxc hP hS hq9 hv9 hcl9 => ?_) (fun r u H locs hp hP hD hS => ?_)
  · rcases hxc with ⟨rfl, hc9⟩ | ⟨rfl, hc9, hc8⟩
    · exact absurd (hc9.symm.trans hT9) (by decide)
    · refine vx_catch (name := xIS) hown [] ⟨0, 61, 62, 59⟩ [] (by rw [htab]; rfl) (fun z hz => nomatch hz) (by decide) (by decide) (hts (.classLink RL 59 "java/lang/IllegalStateException") (List.mem_of_getElem? (i := 1) rfl)) (va_Nw.use rfl (hE.1.2.2.2.1 xIS (List.mem_of_getElem? (i := 2) rfl))) hq9 hv9 hcl9 ?_
      refine lv_astore (lv' := [(4, .ref q9), (0, .ref ax), (1, .int 2), (2, .int t), (3, .int b)]) hx hb dL_told_62 hl (by decide) rfl (fun ls hl => ?_)
      refine lv_bipush (v := -13) hx hb dL_told_64 (by decide) ?_
      exact x_iret hx hb hr hlocks hK (σ) hP hD hS (⟨fun _ => ⟨rfl, rfl⟩, fun q => absurd hc8 q⟩) dL_told_66
  · obtain ⟨-, hq, rfl, hu9⟩ := hp
    rw [hu9] at hP hD
    refine lv_goto (tgt := 61) hx hb dL_told_53 (by decide) ?_
    refine W.widen (k := 2) (n := 12) (by decide) (by decide) ?_
    exact x_iret hx hb hr hlocks hK ((cSetCap σ t).2) hP hD hS (⟨fun q => absurd q hq, fun _ => ⟨rfl, rfl⟩⟩) dL_told_61
set_option maxHeartbeats 4000000 in
set_option maxRecDepth 100000 in
theorem k_L_told3 (l : Launch) (D : va_G) (ax ar : Nat) (ad : Nat → Nat) (cO : ClassId) (sz : Nat) (σ : St) (t b : Int32) (hT9 : inR t 1 1000 = true) (hfl : l.stackTraces = false) : Met l yL_told wsL_told ({ frames := 9, cells := 1, slots := 6, locals := 200 } : Room) (va_Pc [.ref ax, .int 3, .int t, .int b] (xPre D (cT cO) xE (cW ax ar ad cO) σ sz)) (va_Qi (fun (r : Int32) (u : St) => r = gI σ 4 ∧ u = uI σ 4 t) (xB D (cT cO) (cW ax ar ad cO) (va_A (cW ax ar ad cO σ) sz)) (va_A (cW ax ar ad cO σ) sz)) 1 6 (va_A (cW ax ar ad cO σ) sz) := by
  refine xwOpen (w := (cW ax ar ad cO)) (σ := σ) (cc := cL_told) (maxL := 5) (ret := some .int) (hh := [(0, 61, 62, 59)]) (QQ := fun A => va_Qi (fun (r : Int32) (u : St) => r = gI σ 4 ∧ u = uI σ 4 t) (xB D (cT cO) (cW ax ar ad cO) A) A) (by decide) rfl (Nat.le_of_ble_eq_true rfl) ?_
  intro p e s m below meth c A hx hb hr hml hown hts hlocks htab hK hE hA hP hD hS ls hl
  have hl : lv_has ls 5 [(0, .ref ax), (1, .int 3), (2, .int t), (3, .int b)] := hl
  have hown : s.vm.findClass RL = some m.cls := hown
  generalize hH : s.heap = H at hP
  have hS : va_S A s.heap H [] := by rw [← hH]; exact va_S.rf
  generalize hlo : ([] : List Loc) = locs at hS
  refine lv_iload_n hx hb dL_told_0 rfl (lv_at hl 1 rfl) ?_
  refine lv_if_ne (tgt := 30) hx hb dL_told_1 (by decide) (fun _ => ?_) (fun c_1 => absurd c_1 (by decide))
  refine lv_iload_n hx hb dL_told_30 rfl (lv_at hl 1 rfl) ?_
  refine lv_iconst (v := 1) hx hb dL_told_31 (by decide) ?_
  refine lv_icmp_ne (tgt := 43) hx hb dL_told_32 (by decide) (fun _ => ?_) (fun c_2 => absurd c_2 (by decide))
  refine lv_iload_n hx hb dL_told_43 rfl (lv_at hl 1 rfl) ?_
  refine lv_iconst (v := 2) hx hb dL_told_44 (by decide) ?_
  refine lv_icmp_ne (tgt := 56) hx hb dL_told_45 (by decide) (fun _ => ?_) (fun c_3 => absurd c_3 (by decide))
  refine lv_aload_n hx hb dL_told_56 rfl (lv_at hl 0 rfl) ?_
  refine lv_iload_n hx hb dL_told_57 rfl (lv_at hl 2 rfl) ?_
  refine xx_calli (vx_runV (As := [.int t]) (rest := []) ⟨hx, hb, hml, hown, hts⟩ (k_X1_setThreshold l D ax ar ad cO H.size σ t hfl) (cwV 1 hts gL_told_X1_setThreshold rfl rfl rfl (by decide +kernel) ⟨Nat.le_of_ble_eq_true rfl, Nat.le_of_ble_eq_true rfl⟩) (xPreV xE_ok hE hK hA hP hD hS (q0 := 0) (ci := 1) rfl rfl rfl) rfl rfl hl.1 rfl (lv_room (Nat.le_of_ble_eq_true rfl)) dL_told_58 ⟨Nat.le_of_ble_eq_true rfl, Nat.le_of_ble_eq_true rfl⟩) hD hS hA (fun En ce q9 H locs hxc hP hS hq9 hv9 hcl9 => ?_) (fun r u H locs hp hP hD hS => ?_)
  · exact absurd (hxc.2.symm.trans hT9) (by decide)
  · obtain ⟨-, rfl, hu9⟩ := hp
    rw [hu9] at hP hD
    refine W.widen (k := 1) (n := 6) (by decide) (by decide) ?_
    exact x_iret hx hb hr hlocks hK (uI σ 4 t) hP hD hS (⟨rfl, rfl⟩) dL_told_61
set_option maxHeartbeats 4000000 in
set_option maxRecDepth 100000 in
theorem k_L_order (l : Launch) (D : va_G) (ax ar : Nat) (ad : Nat → Nat) (cO : ClassId) (sz : Nat) (σ : St) {j : Nat} (hj : j < 32) (L9 : List Nat) (hS9 : SR σ (inO σ) L9) (hO : Ord σ) (hfl : l.stackTraces = false) : Met l yL_order wsL_order ({ frames := 7, cells := 1, slots := 6, locals := 190 } : Room) (va_Pc [.ref ax, .int (nI j)] (xPre D (cT cO) xE (cW ax ar ad cO) σ sz)) (va_Qi (fun (r : Int32) (u : St) => (∀ k, L9[j]? = some k → r = gS σ 0 k) ∧ (L9[j]? = none → r = -11) ∧ u = σ) (xB D (cT cO) (cW ax ar ad cO) (va_A (cW ax ar ad cO σ) sz)) (va_A (cW ax ar ad cO σ) sz)) 1 6 (va_A (cW ax ar ad cO σ) sz) := by
  refine xwOpen (w := (cW ax ar ad cO)) (σ := σ) (cc := cL_order) (maxL := 3) (ret := some .int) (hh := [(0, 5, 6, 64)]) (QQ := fun A => va_Qi (fun (r : Int32) (u : St) => (∀ k, L9[j]? = some k → r = gS σ 0 k) ∧ (L9[j]? = none → r = -11) ∧ u = σ) (xB D (cT cO) (cW ax ar ad cO) A) A) (by decide) rfl (Nat.le_of_ble_eq_true rfl) ?_
  intro p e s m below meth c A hx hb hr hml hown hts hlocks htab hK hE hA hP hD hS ls hl
  have hl : lv_has ls 3 [(0, .ref ax), (1, .int (nI j))] := hl
  have hown : s.vm.findClass RL = some m.cls := hown
  generalize hH : s.heap = H at hP
  have hS : va_S A s.heap H [] := by rw [← hH]; exact va_S.rf
  generalize hlo : ([] : List Loc) = locs at hS
  obtain ⟨N, hN, hN1, hN2⟩ : ∃ N, N < 64 ∧ (∀ i, i < N → nI i < nI j ∧ nth σ i ≠ none) ∧ (N = j ∨ (N ≤ j ∧ nth σ N = none)) := ord_N hO hS9 hj
  have h2 : (¬ nI N < nI j ∨ nth σ N = none) ∧ (¬ nI j < 32 → nth σ N = none) := by
    refine ⟨?_, fun q => absurd (nI_lt hj (by decide)) q⟩
    rcases hN2 with q | q
    · left; rw [q]; exact nI_nlt (Nat.le_refl j) (by omega)
    · right; exact q.2
  refine lv_aload_n hx hb dL_order_0 rfl (lv_at hl 0 rfl) ?_
  refine lv_iload_n hx hb dL_order_1 rfl (lv_at hl 1 rfl) ?_
  refine xx_calli (vx_runV (As := [.int (nI j)]) (rest := []) ⟨hx, hb, hml, hown, hts⟩ (k_X1_leaving l D ax ar ad cO H.size σ (nI j) N hN hN1 h2 hfl) (cwV 1 hts gL_order_X1_leaving rfl rfl rfl (by decide +kernel) ⟨Nat.le_of_ble_eq_true rfl, Nat.le_of_ble_eq_true rfl⟩) (xPreV xE_ok hE hK hA hP hD hS (q0 := 0) (ci := 1) rfl rfl rfl) rfl rfl hl.1 rfl (lv_room (Nat.le_of_ble_eq_true rfl)) dL_order_2 ⟨Nat.le_of_ble_eq_true rfl, Nat.le_of_ble_eq_true rfl⟩) hD hS hA (fun En ce q9 H locs hxc hP hS hq9 hv9 hcl9 => ?_) (fun r u H locs hp hP hD hS => ?_)
  · obtain ⟨rfl, hc9⟩ := hxc
    have hn9 : nth σ N = none := by
      rcases hc9 with q | q
      · exact absurd q (nI_pos (by omega))
      · exact q
    have hLn : L9[j]? = none := by
      rw [nth_row hO hS9] at hn9
      have h7 := List.getElem?_eq_none_iff.mp hn9
      refine List.getElem?_eq_none ?_
      rcases hN2 with q | q <;> omega
    refine vx_catch (name := xIO) hown [] ⟨0, 5, 6, 64⟩ [] (by rw [htab]; rfl) (fun z hz => nomatch hz) (by decide) (by decide) (hts (.classLink RL 64 "java/lang/IndexOutOfBoundsException") (List.mem_of_getElem? (i := 1) rfl)) (va_Nw.use rfl (hE.1.2.2.2.1 xIO (List.mem_of_getElem? (i := 0) rfl))) hq9 hv9 hcl9 ?_
    refine lv_astore_n (lv' := [(2, .ref q9), (0, .ref ax), (1, .int (nI j))]) hx hb dL_order_6 rfl hl (by decide) rfl (fun ls hl => ?_)
    refine lv_bipush (v := -11) hx hb dL_order_7 (by decide) ?_
    exact x_iret hx hb hr hlocks hK (σ) hP hD hS (⟨fun k h => (by rw [hLn] at h; cases h), fun _ => rfl, rfl⟩) dL_order_9
  · obtain ⟨-, ⟨k, hk9, rfl⟩, hu9⟩ := hp
    rw [hu9] at hP hD
    have hLk : L9[j]? = some k := by
      rw [nth_row hO hS9] at hk9
      rcases hN2 with q | q
      · rw [← q]; exact hk9
      · rw [nth_row hO hS9, hk9] at q; exact absurd q.2 (by simp)
    refine W.widen (k := 1) (n := 6) (by decide) (by decide) ?_
    exact x_iret hx hb hr hlocks hK (σ) hP hD hS (⟨fun k2 h => (by rw [hLk] at h; cases h; rfl), fun h => (by rw [hLk] at h; cases h), rfl⟩) dL_order_5
