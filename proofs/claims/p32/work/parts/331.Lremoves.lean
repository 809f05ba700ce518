set_option maxHeartbeats 4000000 in
set_option maxRecDepth 100000 in
theorem k_L_removes (l : Launch) (D : va_G) (be : Nat → Nat) (cI cJ : ClassId) (wr : va_W) (ty : List (ClassId × FieldType)) (sz : Nat) (σ : St) (ρ : Nat → Int32) (γ : Nat) {k : Nat} (hk : k < 32) (L9 : List Nat) (hR9 : Row ρ γ L9) (hn9 : L9.length ≤ 32) (hL9 : ∀ x, x ∈ L9 → x < 32) : Met l yL_removes wsL_removes ({ frames := 1, cells := 0, slots := 0, locals := 30 } : Room) (va_Pc [.ref (be 0), .ref (be 5), .ref (be 6), .int (nI k)] (xPre D (tX cI cJ ty) mE (lX be cI cJ wr) (σ, ρ, γ) sz)) (va_Qv (fun (u : LSt) => u.1 = uB σ 1 k false ∧ Row u.2.1 u.2.2 (wo k L9)) (xB D (tX cI cJ ty) (lX be cI cJ wr) (va_A (lX be cI cJ wr (σ, ρ, γ)) sz)) (va_A (lX be cI cJ wr (σ, ρ, γ)) sz)) 0 0 (va_A (lX be cI cJ wr (σ, ρ, γ)) sz) := by
  refine xOpen (w := (lX be cI cJ wr)) (σ := (σ, ρ, γ)) (cc := cL_removes) (maxL := 4) (ret := none) (QQ := fun A => va_Qv (fun (u : LSt) => u.1 = uB σ 1 k false ∧ Row u.2.1 u.2.2 (wo k L9)) (xB D (tX cI cJ ty) (lX be cI cJ wr) A) A) (by decide) rfl (Nat.le_of_ble_eq_true rfl) ?_
  intro p e s m below meth c A hx hb hr hml hown hts hlocks hname hK hE hA hP hD hS ls hl
  have hl : lv_has ls 4 [(0, .ref (be 0)), (1, .ref (be 5)), (2, .ref (be 6)), (3, .int (nI k))] := hl
  have hown : s.vm.findClass RL = some m.cls := hown
  generalize hH : s.heap = H at hP
  have hS : va_S A s.heap H [] := by rw [← hH]; exact va_S.rf
  generalize hlo : ([] : List Loc) = locs at hS
  refine lv_aload_n hx hb dL_removes_0 rfl (lv_at hl 0 rfl) ?_
  refine lv_iload_n hx hb dL_removes_1 rfl (lv_at hl 3 rfl) ?_
  refine lv_iconst (v := 0) hx hb dL_removes_2 (by decide) ?_
  refine l_st0z hx hb hK hP hD hS hk dL_removes_3 (fun H locs hP hD hS => ?_)
  refine lv_aload_n hx hb dL_removes_4 rfl (lv_at hl 1 rfl) ?_
  refine lv_aload_n hx hb dL_removes_5 rfl (lv_at hl 2 rfl) ?_
  refine lv_iload_n hx hb dL_removes_6 rfl (lv_at hl 3 rfl) ?_
  refine x_callv (va_runS (As := [.ref (be 5), .ref (be 6), .int (nI k)]) (rest := []) ⟨hx, hb, hml, hown, hts⟩ (k_L_takeOut l D be cI cJ wr ty H.size (uB σ 1 k false) ρ γ hk L9 hR9 hn9 hL9) (va_cwS 3 hts gL_removes_L_takeOut rfl rfl rfl (by decide +kernel) ⟨Nat.le_of_ble_eq_true rfl, Nat.le_of_ble_eq_true rfl⟩) (xPreS mE_ok trivial hK hA hP hD hS) rfl rfl hl.1 rfl (lv_room (Nat.le_of_ble_eq_true rfl)) dL_removes_7 ⟨Nat.le_of_ble_eq_true rfl, Nat.le_of_ble_eq_true rfl⟩) hD hS hA (fun u H locs hp hP hD hS => ?_)
  obtain ⟨σ1, ρ1, γ1⟩ := u
  obtain ⟨hu1, hR1⟩ := hp
  have hu1 : σ1 = uB σ 1 k false := hu1
  rw [hu1] at hP hD
  have hR1 : Row ρ1 γ1 (wo k L9) := hR1
  exact x_vret hx hb hr hlocks hK ((uB σ 1 k false, ρ1, γ1) : LSt) hP hD hS (⟨rfl, hR1⟩) dL_removes_10
set_option maxHeartbeats 4000000 in
set_option maxRecDepth 100000 in
theorem k_L_counts (l : Launch) (D : va_G) (be : Nat → Nat) (cI cJ : ClassId) (wr : va_W) (ty : List (ClassId × FieldType)) (sz : Nat) (σ : St) (ρ : Nat → Int32) (γ : Nat) {k : Nat} (pr : Int32) (hk : k < 32) (L9 : List Nat) (hR9 : Row ρ γ L9) (hn9 : L9.length ≤ 32) (hL9 : ∀ x, x ∈ L9 → x < 32) (hz : ¬ uF σ k = 0) : Met l yL_counts wsL_counts ({ frames := 1, cells := 0, slots := 0, locals := 30 } : Room) (va_Pc [.ref (be 0), .ref (be 1), .ref (be 5), .ref (be 6), .ref (be 7), .ref (be 8), .int (nI k), .int pr] (xPre D (tX cI cJ ty) mE (lX be cI cJ wr) (σ, ρ, γ) sz)) (va_Qv (fun (u : LSt) => u.1 = lSetW σ k pr ∧ Row u.2.1 u.2.2 (wo k L9)) (xB D (tX cI cJ ty) (lX be cI cJ wr) (va_A (lX be cI cJ wr (σ, ρ, γ)) sz)) (va_A (lX be cI cJ wr (σ, ρ, γ)) sz)) 0 0 (va_A (lX be cI cJ wr (σ, ρ, γ)) sz) := by
  refine xOpen (w := (lX be cI cJ wr)) (σ := (σ, ρ, γ)) (cc := cL_counts) (maxL := 8) (ret := none) (QQ := fun A => va_Qv (fun (u : LSt) => u.1 = lSetW σ k pr ∧ Row u.2.1 u.2.2 (wo k L9)) (xB D (tX cI cJ ty) (lX be cI cJ wr) A) A) (by decide) rfl (Nat.le_of_ble_eq_true rfl) ?_
  intro p e s m below meth c A hx hb hr hml hown hts hlocks hname hK hE hA hP hD hS ls hl
  have hl : lv_has ls 8 [(0, .ref (be 0)), (1, .ref (be 1)), (2, .ref (be 5)), (3, .ref (be 6)), (4, .ref (be 7)), (5, .ref (be 8)), (6, .int (nI k)), (7, .int pr)] := hl
  have hown : s.vm.findClass RL = some m.cls := hown
  generalize hH : s.heap = H at hP
  have hS : va_S A s.heap H [] := by rw [← hH]; exact va_S.rf
  generalize hlo : ([] : List Loc) = locs at hS
  refine lv_aload_n hx hb dL_counts_0 rfl (lv_at hl 2 rfl) ?_
  refine lv_aload_n hx hb dL_counts_1 rfl (lv_at hl 3 rfl) ?_
  refine lv_iload hx hb dL_counts_2 (lv_at hl 6 rfl) ?_
  refine x_callv (va_runS (As := [.ref (be 5), .ref (be 6), .int (nI k)]) (rest := []) ⟨hx, hb, hml, hown, hts⟩ (k_L_takeOut l D be cI cJ wr ty H.size σ ρ γ hk L9 hR9 hn9 hL9) (va_cwS 3 hts gL_counts_L_takeOut rfl rfl rfl (by decide +kernel) ⟨Nat.le_of_ble_eq_true rfl, Nat.le_of_ble_eq_true rfl⟩) (xPreS mE_ok trivial hK hA hP hD hS) rfl rfl hl.1 rfl (lv_room (Nat.le_of_ble_eq_true rfl)) dL_counts_4 ⟨Nat.le_of_ble_eq_true rfl, Nat.le_of_ble_eq_true rfl⟩) hD hS hA (fun u H locs hp hP hD hS => ?_)
  obtain ⟨σ1, ρ1, γ1⟩ := u
  obtain ⟨hu1, hR1⟩ := hp
  have hu1 : σ1 = σ := hu1
  rw [hu1] at hP hD
  have hR1 : Row ρ1 γ1 (wo k L9) := hR1
  refine lv_aload hx hb dL_counts_7 (lv_at hl 4 rfl) ?_
  refine lv_iload hx hb dL_counts_9 (lv_at hl 6 rfl) ?_
  refine lv_aload hx hb dL_counts_11 (lv_at hl 5 rfl) ?_
  refine lv_iconst (v := 0) hx hb dL_counts_13 (by decide) ?_
  refine l_ld8 hx hb hK hP (k := 0) (by decide) (v := gL σ 2) rfl dL_counts_14 ?_
  refine lv_ldc2 (v := 1000) hx hb hown (hts _ (List.mem_of_getElem? (i := 1) rfl)) dL_counts_15 ?_
  refine lv_iload hx hb dL_counts_18 (lv_at hl 7 rfl) ?_
  refine lv_i2l (v := pr.toInt64) hx hb dL_counts_20 rfl ?_
  refine lv_lmul hx hb dL_counts_21 ?_
  refine lv_aload_n hx hb dL_counts_22 rfl (lv_at hl 1 rfl) ?_
  refine lv_iload hx hb dL_counts_23 (lv_at hl 6 rfl) ?_
  refine l_ld1 hx hb hK hP hk dL_counts_25 ?_
  refine lv_i2l (v := (gS σ 4 k).toInt64) hx hb dL_counts_26 rfl ?_
  refine lv_lmul hx hb dL_counts_27 ?_
  refine lv_aload_n hx hb dL_counts_28 rfl (lv_at hl 0 rfl) ?_
  refine lv_iload hx hb dL_counts_29 (lv_at hl 6 rfl) ?_
  refine l_ld0 hx hb hK hP hk dL_counts_31 ?_
  refine lv_i2l (v := (uF σ k).toInt64) hx hb dL_counts_32 rfl ?_
  refine lv_ldiv hx hb dL_counts_33 ((fun q => hz (toI64_0 q))) ?_
  refine lv_ladd hx hb dL_counts_34 ?_
  refine l_st7 (v := (gL σ 2) + (((1000 * pr.toInt64) * ((gS σ 4 k).toInt64)) / ((uF σ k).toInt64))) hx hb hK hP hD hS hk dL_counts_35 (fun H locs hP hD hS => ?_)
  refine lv_aload hx hb dL_counts_36 (lv_at hl 5 rfl) ?_
  refine lv_iconst (v := 4) hx hb dL_counts_38 (by decide) ?_
  refine lv_dup2_11 hx hb dL_counts_39 rfl rfl ?_
  refine l_ld8 hx hb hK hP (k := 4) (by decide) (v := gL σ 5) rfl dL_counts_40 ?_
  refine lv_lconst (v := 1) hx hb dL_counts_41 (by decide) ?_
  refine lv_ladd hx hb dL_counts_42 ?_
  refine l_st8_4 (v := (gL σ 5) + 1) hx hb hK hP hD hS dL_counts_43 (fun H locs hP hD hS => ?_)
  refine lv_aload hx hb dL_counts_44 (lv_at hl 4 rfl) ?_
  refine lv_bipush (v := 32) hx hb dL_counts_46 (by decide) ?_
  refine lv_iload hx hb dL_counts_48 (lv_at hl 6 rfl) ?_
  refine lv_iadd hx hb dL_counts_50 ?_
  refine lv_aload hx hb dL_counts_51 (lv_at hl 5 rfl) ?_
  refine lv_iconst (v := 4) hx hb dL_counts_53 (by decide) ?_
  refine l_ld8 hx hb hK hP (k := 4) (by decide) (v := (gL σ 5) + 1) rfl dL_counts_54 ?_
  refine l_st7b (v := (gL σ 5) + 1) hx hb hK hP hD hS hk dL_counts_55 (fun H locs hP hD hS => ?_)
  exact x_vret hx hb hr hlocks hK ((uT (uL (uT σ 6 k ((gL σ 2) + (((1000 * pr.toInt64) * ((gS σ 4 k).toInt64)) / ((uF σ k).toInt64)))) 5 ((gL σ 5) + 1)) 7 k ((gL σ 5) + 1), ρ1, γ1) : LSt) hP hD hS (⟨rfl, hR1⟩) dL_counts_56
set_option maxHeartbeats 4000000 in
set_option maxRecDepth 100000 in
theorem k_L_leaves (l : Launch) (D : va_G) (be : Nat → Nat) (cI cJ : ClassId) (wr : va_W) (ty : List (ClassId × FieldType)) (sz : Nat) (σ : St) (ρ : Nat → Int32) (γ : Nat) {k : Nat} (hk : k < 32) (L9 : List Nat) (hR9 : Row ρ γ L9) (hn9 : L9.length ≤ 32) (hL9 : ∀ x, x ∈ L9 → x < 32) (h0 : L9[0]? = some k) : Met l yL_leaves wsL_leaves ({ frames := 2, cells := 0, slots := 0, locals := 60 } : Room) (va_Pc [.ref (be 0), .ref (be 5), .ref (be 6), .ref (be 7), .ref (be 8)] (xPre D (tX cI cJ ty) mE (lX be cI cJ wr) (σ, ρ, γ) sz)) (va_Qv (fun (u : LSt) => u.1 = mLv1 σ k ∧ Row u.2.1 u.2.2 (wo k L9)) (xB D (tX cI cJ ty) (lX be cI cJ wr) (va_A (lX be cI cJ wr (σ, ρ, γ)) sz)) (va_A (lX be cI cJ wr (σ, ρ, γ)) sz)) 0 0 (va_A (lX be cI cJ wr (σ, ρ, γ)) sz) := by
  refine xOpen (w := (lX be cI cJ wr)) (σ := (σ, ρ, γ)) (cc := cL_leaves) (maxL := 6) (ret := none) (QQ := fun A => va_Qv (fun (u : LSt) => u.1 = mLv1 σ k ∧ Row u.2.1 u.2.2 (wo k L9)) (xB D (tX cI cJ ty) (lX be cI cJ wr) A) A) (by decide) rfl (Nat.le_of_ble_eq_true rfl) ?_
  intro p e s m below meth c A hx hb hr hml hown hts hlocks hname hK hE hA hP hD hS ls hl
  have hl : lv_has ls 6 [(0, .ref (be 0)), (1, .ref (be 5)), (2, .ref (be 6)), (3, .ref (be 7)), (4, .ref (be 8))] := hl
  have hown : s.vm.findClass RL = some m.cls := hown
  generalize hH : s.heap = H at hP
  have hS : va_S A s.heap H [] := by rw [← hH]; exact va_S.rf
  generalize hlo : ([] : List Loc) = locs at hS
  refine lv_aload_n hx hb dL_leaves_0 rfl (lv_at hl 1 rfl) ?_
  refine lv_iconst (v := 0) hx hb dL_leaves_1 (by decide) ?_
  refine l_ld5 hx hb hK hP (k := 0) (by decide) dL_leaves_2 ?_
  refine W.eq (g2 := F0 m 3 ls [.int (nI k)]) (by rw [hR9.2 0 k h0]) ?_
  refine lv_istore (lv' := [(5, .int (nI k)), (0, .ref (be 0)), (1, .ref (be 5)), (2, .ref (be 6)), (3, .ref (be 7)), (4, .ref (be 8))]) hx hb dL_leaves_3 hl (by decide) rfl (fun ls hl => ?_)
  refine lv_aload hx hb dL_leaves_5 (lv_at hl 5 rfl) ?_
  refine lv_iconst (v := 0) hx hb dL_leaves_7 (by decide) ?_
  refine lv_aload_n hx hb dL_leaves_8 rfl (lv_at hl 4 rfl) ?_
  refine lv_iload hx hb dL_leaves_9 (lv_at hl 0 rfl) ?_
  refine l_ld7 hx hb hK hP hk dL_leaves_11 ?_
  refine lv_aload hx hb dL_leaves_12 (lv_at hl 5 rfl) ?_
  refine lv_iconst (v := 0) hx hb dL_leaves_14 (by decide) ?_
  refine l_ld8 hx hb hK hP (k := 0) (by decide) (v := gL σ 2) rfl dL_leaves_15 ?_
  refine x_le (tgt := 27) hx hb dL_leaves_16 dL_leaves_17 (by decide) (fun c_1 => ?_) (fun c_1 => ?_)
  · refine lv_aload hx hb dL_leaves_27 (lv_at hl 5 rfl) ?_
    refine lv_iconst (v := 0) hx hb dL_leaves_29 (by decide) ?_
    refine l_ld8 hx hb hK hP (k := 0) (by decide) (v := gL σ 2) rfl dL_leaves_30 ?_
    refine l_st8_0 (v := gL σ 2) hx hb hK hP hD hS dL_leaves_31 (fun H locs hP hD hS => ?_)
    refine lv_aload_n hx hb dL_leaves_32 rfl (lv_at hl 3 rfl) ?_
    refine lv_bipush (v := 6) hx hb dL_leaves_33 (by decide) ?_
    refine lv_dup2_11 hx hb dL_leaves_35 rfl rfl ?_
    refine l_ld6 hx hb hK hP (k := 6) (by decide) (v := gI σ 11) rfl dL_leaves_36 ?_
    refine lv_iconst (v := 1) hx hb dL_leaves_37 (by decide) ?_
    refine lv_iadd hx hb dL_leaves_38 ?_
    refine l_st6_6 (v := (gI σ 11) + 1) hx hb hK hP hD hS dL_leaves_39 (fun H locs hP hD hS => ?_)
    refine lv_aload_n hx hb dL_leaves_40 rfl (lv_at hl 1 rfl) ?_
    refine lv_aload_n hx hb dL_leaves_41 rfl (lv_at hl 2 rfl) ?_
    refine lv_aload_n hx hb dL_leaves_42 rfl (lv_at hl 3 rfl) ?_
    refine lv_iload hx hb dL_leaves_43 (lv_at hl 0 rfl) ?_
    refine x_callv (va_runS (As := [.ref (be 0), .ref (be 5), .ref (be 6), .int (nI k)]) (rest := []) ⟨hx, hb, hml, hown, hts⟩ (k_L_removes l D be cI cJ wr ty H.size (uI (uL σ 2 (gL σ 2)) 11 ((gI σ 11) + 1)) ρ γ hk L9 hR9 hn9 hL9) (va_cwS 4 hts gL_leaves_L_removes rfl rfl rfl (by decide +kernel) ⟨Nat.le_of_ble_eq_true rfl, Nat.le_of_ble_eq_true rfl⟩) (xPreS mE_ok trivial hK hA hP hD hS) rfl rfl hl.1 rfl (lv_room (Nat.le_of_ble_eq_true rfl)) dL_leaves_45 ⟨Nat.le_of_ble_eq_true rfl, Nat.le_of_ble_eq_true rfl⟩) hD hS hA (fun u H locs hp hP hD hS => ?_)
    obtain ⟨σ2, ρ2, γ2⟩ := u
    obtain ⟨hu2, hR2⟩ := hp
    have hu2 : σ2 = uB (uI (uL σ 2 (gL σ 2)) 11 ((gI σ 11) + 1)) 1 k false := hu2
    rw [hu2] at hP hD
    have hR2 : Row ρ2 γ2 (wo k L9) := hR2
    exact x_vret hx hb hr hlocks hK ((uB (uI (uL σ 2 (gL σ 2)) 11 ((gI σ 11) + 1)) 1 k false, ρ2, γ2) : LSt) hP hD hS (⟨by unfold mLv1; rw [if_neg c_1]; rfl, hR2⟩) dL_leaves_48
  · refine lv_aload_n hx hb dL_leaves_20 rfl (lv_at hl 4 rfl) ?_
    refine lv_iload hx hb dL_leaves_21 (lv_at hl 0 rfl) ?_
    refine l_ld7 hx hb hK hP hk dL_leaves_23 ?_
    refine lv_goto (tgt := 31) hx hb dL_leaves_24 (by decide) ?_
    refine l_st8_0 (v := gT σ 6 k) hx hb hK hP hD hS dL_leaves_31 (fun H locs hP hD hS => ?_)
    refine lv_aload_n hx hb dL_leaves_32 rfl (lv_at hl 3 rfl) ?_
    refine lv_bipush (v := 6) hx hb dL_leaves_33 (by decide) ?_
    refine lv_dup2_11 hx hb dL_leaves_35 rfl rfl ?_
    refine l_ld6 hx hb hK hP (k := 6) (by decide) (v := gI σ 11) rfl dL_leaves_36 ?_
    refine lv_iconst (v := 1) hx hb dL_leaves_37 (by decide) ?_
    refine lv_iadd hx hb dL_leaves_38 ?_
    refine l_st6_6 (v := (gI σ 11) + 1) hx hb hK hP hD hS dL_leaves_39 (fun H locs hP hD hS => ?_)
    refine lv_aload_n hx hb dL_leaves_40 rfl (lv_at hl 1 rfl) ?_
    refine lv_aload_n hx hb dL_leaves_41 rfl (lv_at hl 2 rfl) ?_
    refine lv_aload_n hx hb dL_leaves_42 rfl (lv_at hl 3 rfl) ?_
    refine lv_iload hx hb dL_leaves_43 (lv_at hl 0 rfl) ?_
    refine x_callv (va_runS (As := [.ref (be 0), .ref (be 5), .ref (be 6), .int (nI k)]) (rest := []) ⟨hx, hb, hml, hown, hts⟩ (k_L_removes l D be cI cJ wr ty H.size (uI (uL σ 2 (gT σ 6 k)) 11 ((gI σ 11) + 1)) ρ γ hk L9 hR9 hn9 hL9) (va_cwS 4 hts gL_leaves_L_removes rfl rfl rfl (by decide +kernel) ⟨Nat.le_of_ble_eq_true rfl, Nat.le_of_ble_eq_true rfl⟩) (xPreS mE_ok trivial hK hA hP hD hS) rfl rfl hl.1 rfl (lv_room (Nat.le_of_ble_eq_true rfl)) dL_leaves_45 ⟨Nat.le_of_ble_eq_true rfl, Nat.le_of_ble_eq_true rfl⟩) hD hS hA (fun u H locs hp hP hD hS => ?_)
    obtain ⟨σ3, ρ3, γ3⟩ := u
    obtain ⟨hu3, hR3⟩ := hp
    have hu3 : σ3 = uB (uI (uL σ 2 (gT σ 6 k)) 11 ((gI σ 11) + 1)) 1 k false := hu3
    rw [hu3] at hP hD
    have hR3 : Row ρ3 γ3 (wo k L9) := hR3
    exact x_vret hx hb hr hlocks hK ((uB (uI (uL σ 2 (gT σ 6 k)) 11 ((gI σ 11) + 1)) 1 k false, ρ3, γ3) : LSt) hP hD hS (⟨by unfold mLv1; rw [if_pos c_1]; rfl, hR3⟩) dL_leaves_48
set_option maxHeartbeats 4000000 in
set_option maxRecDepth 100000 in
theorem k_L_clears (l : Launch) (D : va_G) (be : Nat → Nat) (cI cJ : ClassId) (wr : va_W) (ty : List (ClassId × FieldType)) (sz : Nat) (σ : St) (ρ : Nat → Int32) (γ : Nat) (L9 : List Nat) (hR9 : Row ρ γ L9) (hS9 : SR σ (inO σ) L9) (hz9 : Sz σ) : Met l yL_clears wsL_clears ({ frames := 2, cells := 0, slots := 0, locals := 60 } : Room) (va_Pc [.ref (be 0), .ref (be 2), .ref (be 5), .ref (be 6)] (xPre D (tX cI cJ ty) mE (lX be cI cJ wr) (σ, ρ, γ) sz)) (va_Qi (fun (r : Int32) (u : LSt) => r = rmC σ 32 ∧ u.1 = rmO σ ∧ OK u.1 u.2.1 u.2.2) (xB D (tX cI cJ ty) (lX be cI cJ wr) (va_A (lX be cI cJ wr (σ, ρ, γ)) sz)) (va_A (lX be cI cJ wr (σ, ρ, γ)) sz)) 0 0 (va_A (lX be cI cJ wr (σ, ρ, γ)) sz) := by
  refine xOpen (w := (lX be cI cJ wr)) (σ := (σ, ρ, γ)) (cc := cL_clears) (maxL := 6) (ret := some .int) (QQ := fun A => va_Qi (fun (r : Int32) (u : LSt) => r = rmC σ 32 ∧ u.1 = rmO σ ∧ OK u.1 u.2.1 u.2.2) (xB D (tX cI cJ ty) (lX be cI cJ wr) A) A) (by decide) rfl (Nat.le_of_ble_eq_true rfl) ?_
  intro p e s m below meth c A hx hb hr hml hown hts hlocks hname hK hE hA hP hD hS ls hl
  have hl : lv_has ls 6 [(0, .ref (be 0)), (1, .ref (be 2)), (2, .ref (be 5)), (3, .ref (be 6))] := hl
  have hown : s.vm.findClass RL = some m.cls := hown
  generalize hH : s.heap = H at hP
  have hS : va_S A s.heap H [] := by rw [← hH]; exact va_S.rf
  generalize hlo : ([] : List Loc) = locs at hS
  refine lv_iconst (v := 0) hx hb dL_clears_0 (by decide) ?_
  refine lv_istore (lv' := [(4, .int 0), (0, .ref (be 0)), (1, .ref (be 2)), (2, .ref (be 5)), (3, .ref (be 6))]) hx hb dL_clears_1 hl (by decide) rfl (fun ls hl => ?_)
  refine lv_iconst (v := 0) hx hb dL_clears_3 (by decide) ?_
  refine lv_istore (lv' := [(5, .int 0), (4, .int 0), (0, .ref (be 0)), (1, .ref (be 2)), (2, .ref (be 5)), (3, .ref (be 6))]) hx hb dL_clears_4 hl (by decide) rfl (fun ls hl => ?_)
  have loop : ∀ (n : Nat) (i : Nat) (ρ1 : Nat → Int32) (γ1 : Nat) (ls : Array Slot) (H : Heap) (locs : List Loc), 32 - i < n → i ≤ 32 → Row ρ1 γ1 (L9.filter (fun x => gB (rmS σ i) 1 x)) → va_P D vwCl (lX be cI cJ wr (rmS σ i, ρ1, γ1)) H → va_D A (lX be cI cJ wr (rmS σ i, ρ1, γ1)) → va_S A s.heap H locs → lv_has ls 6 [(0, .ref (be 0)), (1, .ref (be 2)), (2, .ref (be 5)), (3, .ref (be 6)), (4, .int (rmC σ i)), (5, .int (nI i))] → W p l e (headSpec wsL_clears ({ frames := 2, cells := 0, slots := 0, locals := 60 } : Room)).room s m [.ref (be 0), .ref (be 2), .ref (be 5), .ref (be 6)].toArray below meth c H locs 0 0 (MQ below (va_Qi (fun (r : Int32) (u : LSt) => r = rmC σ 32 ∧ u.1 = rmO σ ∧ OK u.1 u.2.1 u.2.2) (xB D (tX cI cJ ty) (lX be cI cJ wr) A) A) [.ref (be 0), .ref (be 2), .ref (be 5), .ref (be 6)].toArray s 0 0 A) (F0 m 6 ls []) := by
    intro n
    induction n with
    | zero =>
      intro i ρ1 γ1 ls H locs h9
      exact absurd h9 (Nat.not_lt_zero _)
    | succ n ih =>
      intro i ρ1 γ1 ls H locs hn9 hi hrw hP hD hS hl
      have hzi : Sz (rmS σ i) := fun k hk b => by
        have f9 := rmS_f σ i
        rw [f9.2.2.2.2.2 k] at b
        rw [S_e f9.2.2.1 3 k]
        simp only [Bool.and_eq_true] at b
        exact hz9 k hk b.1
      refine lv_iload hx hb dL_clears_6 (lv_at hl 5 rfl) ?_
      refine lv_bipush (v := 32) hx hb dL_clears_8 (by decide) ?_
      refine x_icmp_ge (tgt := 47) hx hb dL_clears_10 (by decide) (fun c_1 => ?_) (fun c_1 => ?_)
      · have hi9 : i = 32 := by
          rcases Nat.lt_or_ge i 32 with q | q
          · exact absurd ((nI_lt32 hi).mpr q) c_1
          · omega
        subst hi9
        refine lv_aload_n hx hb dL_clears_47 rfl (lv_at hl 3 rfl) ?_
        refine lv_bipush (v := 7) hx hb dL_clears_48 (by decide) ?_
        refine lv_dup2_11 hx hb dL_clears_50 rfl rfl ?_
        refine l_ld6 hx hb hK hP (k := 7) (by decide) (v := gI (rmS σ 32) 12) rfl dL_clears_51 ?_
        refine lv_iload hx hb dL_clears_52 (lv_at hl 4 rfl) ?_
        refine lv_iadd hx hb dL_clears_54 ?_
        refine l_st6_7 (v := (gI (rmS σ 32) 12) + (rmC σ 32)) hx hb hK hP hD hS dL_clears_55 (fun H locs hP hD hS => ?_)
        refine lv_iload hx hb dL_clears_56 (lv_at hl 4 rfl) ?_
        exact x_iret hx hb hr hlocks hK ((uI (rmS σ 32) 12 ((gI (rmS σ 32) 12) + (rmC σ 32)), ρ1, γ1) : LSt) hP hD hS (⟨rfl, rfl, _, hrw, cl_ok hS9⟩) dL_clears_58
      · have hlt : i < 32 := (nI_lt32 hi).mp c_1
        refine lv_aload_n hx hb dL_clears_13 rfl (lv_at hl 0 rfl) ?_
        refine lv_iload hx hb dL_clears_14 (lv_at hl 5 rfl) ?_
        refine l_ld0 hx hb hK hP hlt dL_clears_16 ?_
        refine x_if_le (tgt := 41) hx hb dL_clears_17 (by decide) (fun c_2 => ?_) (fun c_2 => ?_)
        · refine lv_iinc (v := (nI i) + 1) (lv' := [(5, .int ((nI i) + 1)), (0, .ref (be 0)), (1, .ref (be 2)), (2, .ref (be 5)), (3, .ref (be 6)), (4, .int (rmC σ i))]) hx hb dL_clears_41 hl (k := 5) rfl rfl (by decide) rfl (fun ls hl => ?_)
          refine lv_goto (tgt := 6) hx hb dL_clears_44 (by decide) ?_
          have hb9 : gB (rmS σ i) 1 i = false := by
            cases h8 : gB (rmS σ i) 1 i with
            | false => rfl
            | true => exact absurd ((uF_pos hzi hlt).mpr h8) c_2
          have e9 : rmS σ (i + 1) = rmS σ i := by rw [rmS_s, hb9]; rfl
          have e8 : rmC σ (i + 1) = rmC σ i := by rw [rmC_s, hb9]; rfl
          exact ih (i + 1) ρ1 γ1 ls H locs (by omega) (by omega) (by rw [e9]; exact hrw) (by rw [e9]; exact hP) (by rw [e9]; exact hD) hS (by rw [e8, nI_succ]; exact lv_sub hl [1, 2, 3, 4, 5, 0] rfl)
        · refine lv_aload_n hx hb dL_clears_20 rfl (lv_at hl 1 rfl) ?_
          refine lv_iload hx hb dL_clears_21 (lv_at hl 5 rfl) ?_
          refine l_ld2 hx hb hK hP hlt dL_clears_23 ?_
          refine lv_aload_n hx hb dL_clears_24 rfl (lv_at hl 3 rfl) ?_
          refine lv_iconst (v := 0) hx hb dL_clears_25 (by decide) ?_
          refine l_ld6 hx hb hK hP (k := 0) (by decide) (v := gI (rmS σ i) 1) rfl dL_clears_26 ?_
          refine lv_icmp_gt (tgt := 41) hx hb dL_clears_27 (by decide) (fun c_3 => ?_) (fun c_3 => ?_)
          · refine lv_iinc (v := (nI i) + 1) (lv' := [(5, .int ((nI i) + 1)), (0, .ref (be 0)), (1, .ref (be 2)), (2, .ref (be 5)), (3, .ref (be 6)), (4, .int (rmC σ i))]) hx hb dL_clears_41 hl (k := 5) rfl rfl (by decide) rfl (fun ls hl => ?_)
            refine lv_goto (tgt := 6) hx hb dL_clears_44 (by decide) ?_
            have e9 : rmS σ (i + 1) = rmS σ i := by rw [rmS_s, en_f c_3, Bool.and_false]; rfl
            have e8 : rmC σ (i + 1) = rmC σ i := by rw [rmC_s, en_f c_3, Bool.and_false]; rfl
            exact ih (i + 1) ρ1 γ1 ls H locs (by omega) (by omega) (by rw [e9]; exact hrw) (by rw [e9]; exact hP) (by rw [e9]; exact hD) hS (by rw [e8, nI_succ]; exact lv_sub hl [1, 2, 3, 4, 5, 0] rfl)
          · refine lv_aload_n hx hb dL_clears_30 rfl (lv_at hl 0 rfl) ?_
            refine lv_aload_n hx hb dL_clears_31 rfl (lv_at hl 2 rfl) ?_
            refine lv_aload_n hx hb dL_clears_32 rfl (lv_at hl 3 rfl) ?_
            refine lv_iload hx hb dL_clears_33 (lv_at hl 5 rfl) ?_
            refine x_callv (va_runS (As := [.ref (be 0), .ref (be 5), .ref (be 6), .int (nI i)]) (rest := []) ⟨hx, hb, hml, hown, hts⟩ (k_L_removes l D be cI cJ wr ty H.size (rmS σ i) ρ1 γ1 hlt (L9.filter (fun x => gB (rmS σ i) 1 x)) hrw (Nat.le_trans (List.length_filter_le _ _) (sr_len hS9)) (fun x hx => sr_lt hS9 (List.mem_filter.mp hx).1)) (va_cwS 4 hts gL_clears_L_removes rfl rfl rfl (by decide +kernel) ⟨Nat.le_of_ble_eq_true rfl, Nat.le_of_ble_eq_true rfl⟩) (xPreS mE_ok trivial hK hA hP hD hS) rfl rfl hl.1 rfl (lv_room (Nat.le_of_ble_eq_true rfl)) dL_clears_35 ⟨Nat.le_of_ble_eq_true rfl, Nat.le_of_ble_eq_true rfl⟩) hD hS hA (fun u H locs hp hP hD hS => ?_)
            obtain ⟨σ4, ρ4, γ4⟩ := u
            obtain ⟨hu4, hR4⟩ := hp
            have hu4 : σ4 = uB (rmS σ i) 1 i false := hu4
            rw [hu4] at hP hD
            have hR4 : Row ρ4 γ4 (wo i (L9.filter (fun x => gB (rmS σ i) 1 x))) := hR4
            refine lv_iinc (v := (rmC σ i) + 1) (lv' := [(4, .int ((rmC σ i) + 1)), (0, .ref (be 0)), (1, .ref (be 2)), (2, .ref (be 5)), (3, .ref (be 6)), (5, .int (nI i))]) hx hb dL_clears_38 hl (k := 4) rfl rfl (by decide) rfl (fun ls hl => ?_)
            refine lv_iinc (v := (nI i) + 1) (lv' := [(5, .int ((nI i) + 1)), (4, .int ((rmC σ i) + 1)), (0, .ref (be 0)), (1, .ref (be 2)), (2, .ref (be 5)), (3, .ref (be 6))]) hx hb dL_clears_41 hl (k := 5) rfl rfl (by decide) rfl (fun ls hl => ?_)
            refine lv_goto (tgt := 6) hx hb dL_clears_44 (by decide) ?_
            have e9 : rmS σ (i + 1) = uB (rmS σ i) 1 i false := by rw [rmS_s, en_t c_3, (uF_pos hzi hlt).mp c_2]; rfl
            have e8 : rmC σ (i + 1) = rmC σ i + 1 := by rw [rmC_s, en_t c_3, (uF_pos hzi hlt).mp c_2]; rfl
            exact ih (i + 1) ρ4 γ4 ls H locs (by omega) (by omega) (by rw [e9, ← cl_l]; exact hR4) (by rw [e9]; exact hP) (by rw [e9]; exact hD) hS (by rw [e8, nI_succ]; exact lv_sub hl [2, 3, 4, 5, 1, 0] rfl)
  exact loop (32 + 1) 0 ρ γ _ _ _ (by omega) (Nat.zero_le _) (by rw [cl_0 hS9]; exact hR9) hP hD hS (lv_sub hl [2, 3, 4, 5, 1, 0] rfl)
set_option maxHeartbeats 4000000 in
set_option maxRecDepth 100000 in
theorem k_L_would (l : Launch) (D : va_G) (be : Nat → Nat) (cI cJ : ClassId) (wr : va_W) (ty : List (ClassId × FieldType)) (sz : Nat) (σ : St) (ρ : Nat → Int32) (γ : Nat) (t : Int32) (n8 : Nat) (L9 : List Nat) (hR9 : Row ρ γ L9) (hS9 : SR σ (inO σ) L9) (hV9 : V n8 σ) (ht : 1 ≤ t.toInt ∧ t.toInt ≤ 1000) : Met l yL_would wsL_would ({ frames := 1, cells := 0, slots := 0, locals := 30 } : Room) (va_Pc [.ref (be 0), .ref (be 2), .ref (be 3), .ref (be 5), .ref (be 6), .int t] (xPre D (tX cI cJ ty) mE (lX be cI cJ wr) (σ, ρ, γ) sz)) (va_Qi (fun (r : Int32) (u : LSt) => r = cWould σ t ∧ u = (σ, ρ, γ)) (xB D (tX cI cJ ty) (lX be cI cJ wr) (va_A (lX be cI cJ wr (σ, ρ, γ)) sz)) (va_A (lX be cI cJ wr (σ, ρ, γ)) sz)) 0 0 (va_A (lX be cI cJ wr (σ, ρ, γ)) sz) := by
  refine xOpen (w := (lX be cI cJ wr)) (σ := (σ, ρ, γ)) (cc := cL_would) (maxL := 9) (ret := some .int) (QQ := fun A => va_Qi (fun (r : Int32) (u : LSt) => r = cWould σ t ∧ u = (σ, ρ, γ)) (xB D (tX cI cJ ty) (lX be cI cJ wr) A) A) (by decide) rfl (Nat.le_of_ble_eq_true rfl) ?_
  intro p e s m below meth c A hx hb hr hml hown hts hlocks hname hK hE hA hP hD hS ls hl
  have hl : lv_has ls 9 [(0, .ref (be 0)), (1, .ref (be 2)), (2, .ref (be 3)), (3, .ref (be 5)), (4, .ref (be 6)), (5, .int t)] := hl
  have hown : s.vm.findClass RL = some m.cls := hown
  generalize hH : s.heap = H at hP
  have hS : va_S A s.heap H [] := by rw [← hH]; exact va_S.rf
  generalize hlo : ([] : List Loc) = locs at hS
  refine lv_aload_n hx hb dL_would_0 rfl (lv_at hl 0 rfl) ?_
  refine x_calli (va_runS (As := [.ref (be 0)]) (rest := []) ⟨hx, hb, hml, hown, hts⟩ (k_L_used l D be cI cJ wr ty H.size σ ρ γ) (va_cwS 1 hts gL_would_L_used rfl rfl rfl (by decide +kernel) ⟨Nat.le_of_ble_eq_true rfl, Nat.le_of_ble_eq_true rfl⟩) (xPreS mE_ok trivial hK hA hP hD hS) rfl rfl hl.1 rfl (lv_room (Nat.le_of_ble_eq_true rfl)) dL_would_1 ⟨Nat.le_of_ble_eq_true rfl, Nat.le_of_ble_eq_true rfl⟩) hD hS hA (fun r u H locs hp hP hD hS => ?_)
  obtain ⟨rfl, hu9⟩ := hp
  rw [hu9] at hP hD
  refine lv_istore (lv' := [(6, .int (used σ)), (0, .ref (be 0)), (1, .ref (be 2)), (2, .ref (be 3)), (3, .ref (be 5)), (4, .ref (be 6)), (5, .int t)]) hx hb dL_would_4 hl (by decide) rfl (fun ls hl => ?_)
  refine lv_iload hx hb dL_would_6 (lv_at hl 0 rfl) ?_
  refine lv_iload hx hb dL_would_8 (lv_at hl 6 rfl) ?_
  refine lv_iadd hx hb dL_would_10 ?_
  refine lv_aload hx hb dL_would_11 (lv_at hl 5 rfl) ?_
  refine lv_iconst (v := 1) hx hb dL_would_13 (by decide) ?_
  refine l_ld6 hx hb hK hP (k := 1) (by decide) (v := gI σ 3) rfl dL_would_14 ?_
  refine lv_icmp_gt (tgt := 20) hx hb dL_would_15 (by decide) (fun c_1 => ?_) (fun c_1 => ?_)
  · refine lv_iconst (v := 0) hx hb dL_would_20 (by decide) ?_
    refine lv_istore (lv' := [(7, .int 0), (6, .int (used σ)), (0, .ref (be 0)), (1, .ref (be 2)), (2, .ref (be 3)), (3, .ref (be 5)), (4, .ref (be 6)), (5, .int t)]) hx hb dL_would_21 hl (by decide) rfl (fun ls hl => ?_)
    refine lv_iconst (v := 0) hx hb dL_would_23 (by decide) ?_
    refine lv_istore (lv' := [(8, .int 0), (7, .int 0), (6, .int (used σ)), (0, .ref (be 0)), (1, .ref (be 2)), (2, .ref (be 3)), (3, .ref (be 5)), (4, .ref (be 6)), (5, .int t)]) hx hb dL_would_24 hl (by decide) rfl (fun ls hl => ?_)
    have hu : gI σ 3 < used σ + t := c_1
    have hlen := sr_len hS9
    have hγ := hR9.1
    have hO := hV9.ord
    have loop : ∀ (n : Nat) (i : Nat) (ls : Array Slot) (H : Heap) (locs : List Loc), 32 - i < n → i ≤ 32 → va_P D vwCl (lX be cI cJ wr (σ, ρ, γ)) H → va_D A (lX be cI cJ wr (σ, ρ, γ)) → va_S A s.heap H locs → lv_has ls 9 [(0, .ref (be 0)), (1, .ref (be 2)), (2, .ref (be 3)), (3, .ref (be 5)), (4, .ref (be 6)), (5, .int t), (6, .int (mSubI σ i)), (7, .int 0), (8, .int (nI i))] → W p l e (headSpec wsL_would ({ frames := 1, cells := 0, slots := 0, locals := 30 } : Room)).room s m [.ref (be 0), .ref (be 2), .ref (be 3), .ref (be 5), .ref (be 6), .int t].toArray below meth c H locs 0 0 (MQ below (va_Qi (fun (r : Int32) (u : LSt) => r = cWould σ t ∧ u = (σ, ρ, γ)) (xB D (tX cI cJ ty) (lX be cI cJ wr) A) A) [.ref (be 0), .ref (be 2), .ref (be 3), .ref (be 5), .ref (be 6), .int t].toArray s 0 0 A) (F0 m 26 ls []) := by
      intro n
      induction n with
      | zero =>
        intro i ls H locs h9
        exact absurd h9 (Nat.not_lt_zero _)
      | succ n ih =>
        intro i ls H locs hn9 hi hP hD hS hl
        refine lv_iload hx hb dL_would_26 (lv_at hl 8 rfl) ?_
        refine lv_bipush (v := 32) hx hb dL_would_28 (by decide) ?_
        refine x_icmp_ge (tgt := 63) hx hb dL_would_30 (by decide) (fun c_2 => ?_) (fun c_2 => ?_)
        · have hi9 : i = 32 := by
            rcases Nat.lt_or_ge i 32 with q | q
            · exact absurd ((nI_lt32 hi).mpr q) c_2
            · omega
          subst hi9
          refine lv_iconst (v := 0) hx hb dL_would_63 (by decide) ?_
          refine lv_istore (lv' := [(8, .int 0), (0, .ref (be 0)), (1, .ref (be 2)), (2, .ref (be 3)), (3, .ref (be 5)), (4, .ref (be 6)), (5, .int t), (6, .int (mSubI σ 32)), (7, .int 0)]) hx hb dL_would_64 hl (by decide) rfl (fun ls hl => ?_)
          have loop : ∀ (n : Nat) (j9 : Nat) (ls : Array Slot) (H : Heap) (locs : List Loc), L9.length - j9 < n → j9 ≤ L9.length → (∀ i, i < j9 → gI σ 3 < (mWl σ i).1 + t) → va_P D vwCl (lX be cI cJ wr (σ, ρ, γ)) H → va_D A (lX be cI cJ wr (σ, ρ, γ)) → va_S A s.heap H locs → lv_has ls 9 [(0, .ref (be 0)), (1, .ref (be 2)), (2, .ref (be 3)), (3, .ref (be 5)), (4, .ref (be 6)), (5, .int t), (6, .int ((mWl σ j9).1)), (7, .int ((mWl σ j9).2)), (8, .int (nI j9))] → W p l e (headSpec wsL_would ({ frames := 1, cells := 0, slots := 0, locals := 30 } : Room)).room s m [.ref (be 0), .ref (be 2), .ref (be 3), .ref (be 5), .ref (be 6), .int t].toArray below meth c H locs 0 0 (MQ below (va_Qi (fun (r : Int32) (u : LSt) => r = cWould σ t ∧ u = (σ, ρ, γ)) (xB D (tX cI cJ ty) (lX be cI cJ wr) A) A) [.ref (be 0), .ref (be 2), .ref (be 3), .ref (be 5), .ref (be 6), .int t].toArray s 0 0 A) (F0 m 66 ls []) := by
            intro n
            induction n with
            | zero =>
              intro j9 ls H locs h9
              exact absurd h9 (Nat.not_lt_zero _)
            | succ n ih =>
              intro j9 ls H locs hn9 hj hw hP hD hS hl
              refine lv_iload hx hb dL_would_66 (lv_at hl 8 rfl) ?_
              refine lv_aload hx hb dL_would_68 (lv_at hl 4 rfl) ?_
              refine lv_iconst (v := 3) hx hb dL_would_70 (by decide) ?_
              refine l_ld6 hx hb hK hP (k := 3) (by decide) (v := nI γ) rfl dL_would_71 ?_
              refine x_icmp_ge (tgt := 144) hx hb dL_would_72 (by decide) (fun c_3 => ?_) (fun c_3 => ?_)
              · have hj9 : j9 = L9.length := by
                  rcases Nat.lt_or_ge j9 L9.length with q | q
                  · exact absurd ((nI_ltI (by omega) (by omega)).mpr (by omega)) c_3
                  · omega
                refine lv_iload hx hb dL_would_144 (lv_at hl 6 rfl) ?_
                refine lv_iload hx hb dL_would_146 (lv_at hl 5 rfl) ?_
                refine lv_iadd hx hb dL_would_148 ?_
                refine lv_aload hx hb dL_would_149 (lv_at hl 4 rfl) ?_
                refine lv_iconst (v := 1) hx hb dL_would_151 (by decide) ?_
                refine l_ld6 hx hb hK hP (k := 1) (by decide) (v := gI σ 3) rfl dL_would_152 ?_
                refine x_icmp_le (tgt := 160) hx hb dL_would_153 (by decide) (fun c_4 => ?_) (fun c_4 => ?_)
                · refine lv_iload hx hb dL_would_160 (lv_at hl 7 rfl) ?_
                  exact x_iret hx hb hr hlocks hK ((σ, ρ, γ) : LSt) hP hD hS (⟨by rw [← wd_ok hV9 hS9 ht hu hj hw (Or.inl hj9), if_neg c_4], rfl⟩) dL_would_162
                · refine lv_iconst (v := (-1)) hx hb dL_would_156 (by decide) ?_
                  refine lv_goto (tgt := 162) hx hb dL_would_157 (by decide) ?_
                  exact x_iret hx hb hr hlocks hK ((σ, ρ, γ) : LSt) hP hD hS (⟨by rw [← wd_ok hV9 hS9 ht hu hj hw (Or.inl hj9), if_pos c_4], rfl⟩) dL_would_162
              · have hlt : j9 < L9.length := by
                  rcases Nat.lt_or_ge j9 L9.length with q | q
                  · exact q
                  · exact absurd ((nI_ltI (by omega) (by omega)).mp c_3) (by omega)
                refine lv_iload hx hb dL_would_75 (lv_at hl 6 rfl) ?_
                refine lv_iload hx hb dL_would_77 (lv_at hl 5 rfl) ?_
                refine lv_iadd hx hb dL_would_79 ?_
                refine lv_aload hx hb dL_would_80 (lv_at hl 4 rfl) ?_
                refine lv_iconst (v := 1) hx hb dL_would_82 (by decide) ?_
                refine l_ld6 hx hb hK hP (k := 1) (by decide) (v := gI σ 3) rfl dL_would_83 ?_
                refine x_icmp_le (tgt := 144) hx hb dL_would_84 (by decide) (fun c_5 => ?_) (fun c_5 => ?_)
                · refine lv_iload hx hb dL_would_144 (lv_at hl 6 rfl) ?_
                  refine lv_iload hx hb dL_would_146 (lv_at hl 5 rfl) ?_
                  refine lv_iadd hx hb dL_would_148 ?_
                  refine lv_aload hx hb dL_would_149 (lv_at hl 4 rfl) ?_
                  refine lv_iconst (v := 1) hx hb dL_would_151 (by decide) ?_
                  refine l_ld6 hx hb hK hP (k := 1) (by decide) (v := gI σ 3) rfl dL_would_152 ?_
                  refine x_icmp_le (tgt := 160) hx hb dL_would_153 (by decide) (fun c_6 => ?_) (fun c_6 => ?_)
                  · refine lv_iload hx hb dL_would_160 (lv_at hl 7 rfl) ?_
                    exact x_iret hx hb hr hlocks hK ((σ, ρ, γ) : LSt) hP hD hS (⟨by rw [← wd_ok hV9 hS9 ht hu hj hw (Or.inr c_5), if_neg c_6], rfl⟩) dL_would_162
                  · refine lv_iconst (v := (-1)) hx hb dL_would_156 (by decide) ?_
                    refine lv_goto (tgt := 162) hx hb dL_would_157 (by decide) ?_
                    exact x_iret hx hb hr hlocks hK ((σ, ρ, γ) : LSt) hP hD hS (⟨by rw [← wd_ok hV9 hS9 ht hu hj hw (Or.inr c_5), if_pos c_6], rfl⟩) dL_would_162
                · obtain ⟨y, hy⟩ : ∃ y, L9[j9]? = some y := ⟨_, List.getElem?_eq_getElem hlt⟩
                  have hy32 := sr_lt hS9 (List.mem_of_getElem? hy)
                  have e1 := hR9.2 j9 y hy
                  refine lv_iload hx hb dL_would_87 (lv_at hl 7 rfl) ?_
                  refine lv_aload_n hx hb dL_would_89 rfl (lv_at hl 1 rfl) ?_
                  refine lv_aload_n hx hb dL_would_90 rfl (lv_at hl 3 rfl) ?_
                  refine lv_iload hx hb dL_would_91 (lv_at hl 8 rfl) ?_
                  refine l_ld5 hx hb hK hP (k := j9) (by omega) dL_would_93 ?_
                  refine W.eq (g2 := F0 m 94 ls [.int (nI y), .ref (be 2), .int ((mWl σ j9).2)]) (by rw [e1]) ?_
                  refine l_ld2 hx hb hK hP hy32 dL_would_94 ?_
                  refine lv_aload hx hb dL_would_95 (lv_at hl 4 rfl) ?_
                  refine lv_iconst (v := 0) hx hb dL_would_97 (by decide) ?_
                  refine l_ld6 hx hb hK hP (k := 0) (by decide) (v := gI σ 1) rfl dL_would_98 ?_
                  refine lv_icmp_gt (tgt := 106) hx hb dL_would_99 (by decide) (fun c_7 => ?_) (fun c_7 => ?_)
                  · refine lv_iconst (v := 1) hx hb dL_would_106 (by decide) ?_
                    refine lv_iadd hx hb dL_would_107 ?_
                    refine lv_istore (lv' := [(7, .int (((mWl σ j9).2) + 1)), (0, .ref (be 0)), (1, .ref (be 2)), (2, .ref (be 3)), (3, .ref (be 5)), (4, .ref (be 6)), (5, .int t), (6, .int ((mWl σ j9).1)), (8, .int (nI j9))]) hx hb dL_would_108 hl (by decide) rfl (fun ls hl => ?_)
                    refine lv_iload hx hb dL_would_110 (lv_at hl 7 rfl) ?_
                    refine lv_aload_n hx hb dL_would_112 rfl (lv_at hl 2 rfl) ?_
                    refine lv_aload_n hx hb dL_would_113 rfl (lv_at hl 4 rfl) ?_
                    refine lv_iload hx hb dL_would_114 (lv_at hl 8 rfl) ?_
                    refine l_ld5 hx hb hK hP (k := j9) (by omega) dL_would_116 ?_
                    refine W.eq (g2 := F0 m 117 ls [.int (nI y), .ref (be 2), .int ((mWl σ j9).1)]) (by rw [e1]) ?_
                    refine l_ld2 hx hb hK hP hy32 dL_would_117 ?_
                    refine lv_aload hx hb dL_would_118 (lv_at hl 5 rfl) ?_
                    refine lv_iconst (v := 0) hx hb dL_would_120 (by decide) ?_
                    refine l_ld6 hx hb hK hP (k := 0) (by decide) (v := gI σ 1) rfl dL_would_121 ?_
                    refine lv_icmp_gt (tgt := 129) hx hb dL_would_122 (by decide) (fun c_8 => ?_) (fun c_8 => ?_)
                    · refine lv_aload_n hx hb dL_would_129 rfl (lv_at hl 1 rfl) ?_
                      refine lv_aload_n hx hb dL_would_130 rfl (lv_at hl 4 rfl) ?_
                      refine lv_iload hx hb dL_would_131 (lv_at hl 8 rfl) ?_
                      refine l_ld5 hx hb hK hP (k := j9) (by omega) dL_would_133 ?_
                      refine W.eq (g2 := F0 m 134 ls [.int (nI y), .ref (be 0), .int ((mWl σ j9).1)]) (by rw [e1]) ?_
                      refine l_ld0 hx hb hK hP hy32 dL_would_134 ?_
                      refine lv_isub hx hb dL_would_135 ?_
                      refine lv_istore (lv' := [(6, .int (((mWl σ j9).1) - (uF σ y))), (7, .int (((mWl σ j9).2) + 1)), (0, .ref (be 0)), (1, .ref (be 2)), (2, .ref (be 3)), (3, .ref (be 5)), (4, .ref (be 6)), (5, .int t), (8, .int (nI j9))]) hx hb dL_would_136 hl (by decide) rfl (fun ls hl => ?_)
                      refine lv_iinc (v := (nI j9) + 1) (lv' := [(8, .int ((nI j9) + 1)), (6, .int (((mWl σ j9).1) - (uF σ y))), (7, .int (((mWl σ j9).2) + 1)), (0, .ref (be 0)), (1, .ref (be 2)), (2, .ref (be 3)), (3, .ref (be 5)), (4, .ref (be 6)), (5, .int t)]) hx hb dL_would_138 hl (k := 8) rfl rfl (by decide) rfl (fun ls hl => ?_)
                      refine lv_goto (tgt := 66) hx hb dL_would_141 (by decide) ?_
                      have e9 : mWl σ (j9 + 1) = (((mWl σ j9).1) - (uF σ y), ((mWl σ j9).2) + 1) := by rw [mWl_r hO hS9 (by omega) hy, en_f c_7]; rfl
                      exact ih (j9 + 1) ls H locs (by omega) (by omega) (lt_s hw c_5) hP hD hS (by rw [e9, nI_succ]; exact lv_sub hl [3, 4, 5, 6, 7, 8, 1, 2, 0] rfl)
                    · refine lv_iconst (v := 0) hx hb dL_would_125 (by decide) ?_
                      refine lv_goto (tgt := 135) hx hb dL_would_126 (by decide) ?_
                      refine lv_isub hx hb dL_would_135 ?_
                      refine lv_istore (lv' := [(6, .int (((mWl σ j9).1) - 0)), (7, .int (((mWl σ j9).2) + 1)), (0, .ref (be 0)), (1, .ref (be 2)), (2, .ref (be 3)), (3, .ref (be 5)), (4, .ref (be 6)), (5, .int t), (8, .int (nI j9))]) hx hb dL_would_136 hl (by decide) rfl (fun ls hl => ?_)
                      refine lv_iinc (v := (nI j9) + 1) (lv' := [(8, .int ((nI j9) + 1)), (6, .int (((mWl σ j9).1) - 0)), (7, .int (((mWl σ j9).2) + 1)), (0, .ref (be 0)), (1, .ref (be 2)), (2, .ref (be 3)), (3, .ref (be 5)), (4, .ref (be 6)), (5, .int t)]) hx hb dL_would_138 hl (k := 8) rfl rfl (by decide) rfl (fun ls hl => ?_)
                      refine lv_goto (tgt := 66) hx hb dL_would_141 (by decide) ?_
                      exact absurd c_7 c_8
                  · refine lv_iconst (v := 0) hx hb dL_would_102 (by decide) ?_
                    refine lv_goto (tgt := 107) hx hb dL_would_103 (by decide) ?_
                    refine lv_iadd hx hb dL_would_107 ?_
                    refine lv_istore (lv' := [(7, .int (((mWl σ j9).2) + 0)), (0, .ref (be 0)), (1, .ref (be 2)), (2, .ref (be 3)), (3, .ref (be 5)), (4, .ref (be 6)), (5, .int t), (6, .int ((mWl σ j9).1)), (8, .int (nI j9))]) hx hb dL_would_108 hl (by decide) rfl (fun ls hl => ?_)
                    refine lv_iload hx hb dL_would_110 (lv_at hl 7 rfl) ?_
                    refine lv_aload_n hx hb dL_would_112 rfl (lv_at hl 2 rfl) ?_
                    refine lv_aload_n hx hb dL_would_113 rfl (lv_at hl 4 rfl) ?_
                    refine lv_iload hx hb dL_would_114 (lv_at hl 8 rfl) ?_
                    refine l_ld5 hx hb hK hP (k := j9) (by omega) dL_would_116 ?_
                    refine W.eq (g2 := F0 m 117 ls [.int (nI y), .ref (be 2), .int ((mWl σ j9).1)]) (by rw [e1]) ?_
                    refine l_ld2 hx hb hK hP hy32 dL_would_117 ?_
                    refine lv_aload hx hb dL_would_118 (lv_at hl 5 rfl) ?_
                    refine lv_iconst (v := 0) hx hb dL_would_120 (by decide) ?_
                    refine l_ld6 hx hb hK hP (k := 0) (by decide) (v := gI σ 1) rfl dL_would_121 ?_
                    refine lv_icmp_gt (tgt := 129) hx hb dL_would_122 (by decide) (fun c_9 => ?_) (fun c_9 => ?_)
                    · refine lv_aload_n hx hb dL_would_129 rfl (lv_at hl 1 rfl) ?_
                      refine lv_aload_n hx hb dL_would_130 rfl (lv_at hl 4 rfl) ?_
                      refine lv_iload hx hb dL_would_131 (lv_at hl 8 rfl) ?_
                      refine l_ld5 hx hb hK hP (k := j9) (by omega) dL_would_133 ?_
                      refine W.eq (g2 := F0 m 134 ls [.int (nI y), .ref (be 0), .int ((mWl σ j9).1)]) (by rw [e1]) ?_
                      refine l_ld0 hx hb hK hP hy32 dL_would_134 ?_
                      refine lv_isub hx hb dL_would_135 ?_
                      refine lv_istore (lv' := [(6, .int (((mWl σ j9).1) - (uF σ y))), (7, .int (((mWl σ j9).2) + 0)), (0, .ref (be 0)), (1, .ref (be 2)), (2, .ref (be 3)), (3, .ref (be 5)), (4, .ref (be 6)), (5, .int t), (8, .int (nI j9))]) hx hb dL_would_136 hl (by decide) rfl (fun ls hl => ?_)
                      refine lv_iinc (v := (nI j9) + 1) (lv' := [(8, .int ((nI j9) + 1)), (6, .int (((mWl σ j9).1) - (uF σ y))), (7, .int (((mWl σ j9).2) + 0)), (0, .ref (be 0)), (1, .ref (be 2)), (2, .ref (be 3)), (3, .ref (be 5)), (4, .ref (be 6)), (5, .int t)]) hx hb dL_would_138 hl (k := 8) rfl rfl (by decide) rfl (fun ls hl => ?_)
                      refine lv_goto (tgt := 66) hx hb dL_would_141 (by decide) ?_
                      exact absurd c_9 c_7
                    · refine lv_iconst (v := 0) hx hb dL_would_125 (by decide) ?_
                      refine lv_goto (tgt := 135) hx hb dL_would_126 (by decide) ?_
                      refine lv_isub hx hb dL_would_135 ?_
                      refine lv_istore (lv' := [(6, .int (((mWl σ j9).1) - 0)), (7, .int (((mWl σ j9).2) + 0)), (0, .ref (be 0)), (1, .ref (be 2)), (2, .ref (be 3)), (3, .ref (be 5)), (4, .ref (be 6)), (5, .int t), (8, .int (nI j9))]) hx hb dL_would_136 hl (by decide) rfl (fun ls hl => ?_)
                      refine lv_iinc (v := (nI j9) + 1) (lv' := [(8, .int ((nI j9) + 1)), (6, .int (((mWl σ j9).1) - 0)), (7, .int (((mWl σ j9).2) + 0)), (0, .ref (be 0)), (1, .ref (be 2)), (2, .ref (be 3)), (3, .ref (be 5)), (4, .ref (be 6)), (5, .int t)]) hx hb dL_would_138 hl (k := 8) rfl rfl (by decide) rfl (fun ls hl => ?_)
                      refine lv_goto (tgt := 66) hx hb dL_would_141 (by decide) ?_
                      have e9 : mWl σ (j9 + 1) = (((mWl σ j9).1) - 0, ((mWl σ j9).2) + 0) := by rw [mWl_r hO hS9 (by omega) hy, en_t c_7]; rfl
                      exact ih (j9 + 1) ls H locs (by omega) (by omega) (lt_s hw c_5) hP hD hS (by rw [e9, nI_succ]; exact lv_sub hl [3, 4, 5, 6, 7, 8, 1, 2, 0] rfl)
          exact loop (L9.length + 1) 0 _ _ _ (by omega) (Nat.zero_le _) lt_0 hP hD hS (lv_sub hl [1, 2, 3, 4, 5, 6, 7, 8, 0] rfl)
        · have hlt : i < 32 := (nI_lt32 hi).mp c_2
          refine lv_iload hx hb dL_would_33 (lv_at hl 6 rfl) ?_
          refine lv_aload_n hx hb dL_would_35 rfl (lv_at hl 1 rfl) ?_
          refine lv_iload hx hb dL_would_36 (lv_at hl 8 rfl) ?_
          refine l_ld2 hx hb hK hP hlt dL_would_38 ?_
          refine lv_aload hx hb dL_would_39 (lv_at hl 4 rfl) ?_
          refine lv_iconst (v := 0) hx hb dL_would_41 (by decide) ?_
          refine l_ld6 hx hb hK hP (k := 0) (by decide) (v := gI σ 1) rfl dL_would_42 ?_
          refine lv_icmp_gt (tgt := 53) hx hb dL_would_43 (by decide) (fun c_10 => ?_) (fun c_10 => ?_)
          · refine lv_iconst (v := 0) hx hb dL_would_53 (by decide) ?_
            refine lv_isub hx hb dL_would_54 ?_
            refine lv_istore (lv' := [(6, .int ((mSubI σ i) - 0)), (0, .ref (be 0)), (1, .ref (be 2)), (2, .ref (be 3)), (3, .ref (be 5)), (4, .ref (be 6)), (5, .int t), (7, .int 0), (8, .int (nI i))]) hx hb dL_would_55 hl (by decide) rfl (fun ls hl => ?_)
            refine lv_iinc (v := (nI i) + 1) (lv' := [(8, .int ((nI i) + 1)), (6, .int ((mSubI σ i) - 0)), (0, .ref (be 0)), (1, .ref (be 2)), (2, .ref (be 3)), (3, .ref (be 5)), (4, .ref (be 6)), (5, .int t), (7, .int 0)]) hx hb dL_would_57 hl (k := 8) rfl rfl (by decide) rfl (fun ls hl => ?_)
            refine lv_goto (tgt := 26) hx hb dL_would_60 (by decide) ?_
            have e9 : mSubI σ (i + 1) = (mSubI σ i) - 0 := by rw [mSubI_s, sub_u, en_f c_10]; rfl
            exact ih (i + 1) ls H locs (by omega) (by omega) hP hD hS (by rw [e9, nI_succ]; exact lv_sub hl [2, 3, 4, 5, 6, 7, 1, 8, 0] rfl)
          · refine lv_aload_n hx hb dL_would_46 rfl (lv_at hl 0 rfl) ?_
            refine lv_iload hx hb dL_would_47 (lv_at hl 8 rfl) ?_
            refine l_ld0 hx hb hK hP hlt dL_would_49 ?_
            refine lv_goto (tgt := 54) hx hb dL_would_50 (by decide) ?_
            refine lv_isub hx hb dL_would_54 ?_
            refine lv_istore (lv' := [(6, .int ((mSubI σ i) - (uF σ i))), (0, .ref (be 0)), (1, .ref (be 2)), (2, .ref (be 3)), (3, .ref (be 5)), (4, .ref (be 6)), (5, .int t), (7, .int 0), (8, .int (nI i))]) hx hb dL_would_55 hl (by decide) rfl (fun ls hl => ?_)
            refine lv_iinc (v := (nI i) + 1) (lv' := [(8, .int ((nI i) + 1)), (6, .int ((mSubI σ i) - (uF σ i))), (0, .ref (be 0)), (1, .ref (be 2)), (2, .ref (be 3)), (3, .ref (be 5)), (4, .ref (be 6)), (5, .int t), (7, .int 0)]) hx hb dL_would_57 hl (k := 8) rfl rfl (by decide) rfl (fun ls hl => ?_)
            refine lv_goto (tgt := 26) hx hb dL_would_60 (by decide) ?_
            have e9 : mSubI σ (i + 1) = (mSubI σ i) - (uF σ i) := by rw [mSubI_s, sub_u, en_t c_10]; rfl
            exact ih (i + 1) ls H locs (by omega) (by omega) hP hD hS (by rw [e9, nI_succ]; exact lv_sub hl [2, 3, 4, 5, 6, 7, 1, 8, 0] rfl)
    exact loop (32 + 1) 0 _ _ _ (by omega) (Nat.zero_le _) hP hD hS (lv_sub hl [3, 4, 5, 6, 7, 8, 2, 1, 0] rfl)
  · refine lv_iconst (v := 0) hx hb dL_would_18 (by decide) ?_
    exact x_iret hx hb hr hlocks hK ((σ, ρ, γ) : LSt) hP hD hS (⟨(wd_no hV9 ht c_1).symm, rfl⟩) dL_would_19
