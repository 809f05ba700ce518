set_option maxHeartbeats 4000000 in
set_option maxRecDepth 100000 in
theorem k_X2_makesRoom (l : Launch) (D : va_G) (bx : Nat) (ba : Nat → Nat) (cI cJ cZ : ClassId) (sz : Nat) (σ : St) (sz9 : Int32) (N : Nat) (τ : Nat → St) (h : gI (mRoom0 σ sz9) 3 < mPin (mRoom0 σ sz9) true + sz9 ∨ (τ 0 = mRoom0 σ sz9 ∧ mRun (fun s => gI s 3 < used s + sz9) N τ)) : Met l yX2_makesRoom wsX2_makesRoom ({ frames := 4, cells := 0, slots := 0, locals := 160 } : Room) (va_Pc [.ref bx, .int sz9] (xPre D (mT cI cJ cZ) mE (mW bx ba cI cJ cZ) σ sz)) (va_Qi (fun (r : Int32) (u : St) => r = bI (!decide (gI (mRoom0 σ sz9) 3 < mPin (mRoom0 σ sz9) true + sz9)) ∧ u = (if gI (mRoom0 σ sz9) 3 < mPin (mRoom0 σ sz9) true + sz9 then mRoom0 σ sz9 else τ N)) (xB D (mT cI cJ cZ) (mW bx ba cI cJ cZ) (va_A (mW bx ba cI cJ cZ σ) sz)) (va_A (mW bx ba cI cJ cZ σ) sz)) 0 0 (va_A (mW bx ba cI cJ cZ σ) sz) := by
  refine xOpen (w := (mW bx ba cI cJ cZ)) (σ := σ) (cc := cX2_makesRoom) (maxL := 3) (ret := some .boolean) (QQ := fun A => va_Qi (fun (r : Int32) (u : St) => r = bI (!decide (gI (mRoom0 σ sz9) 3 < mPin (mRoom0 σ sz9) true + sz9)) ∧ u = (if gI (mRoom0 σ sz9) 3 < mPin (mRoom0 σ sz9) true + sz9 then mRoom0 σ sz9 else τ N)) (xB D (mT cI cJ cZ) (mW bx ba cI cJ cZ) A) A) (by decide) rfl (Nat.le_of_ble_eq_true rfl) ?_
  intro p e s m below meth c A hx hb hr hml hown hts hlocks hname hK hE hA hP hD hS ls hl
  have hl : lv_has ls 3 [(0, .ref bx), (1, .int sz9)] := hl
  have hown : s.vm.findClass RX2 = some m.cls := hown
  have hi2 : ∀ w ∈ wsX20, w ∈ wsX2_makesRoom := (fun _ h => List.mem_cons_of_mem _ (List.mem_append_right _ h))
  generalize hH : s.heap = H at hP
  have hS : va_S A s.heap H [] := by rw [← hH]; exact va_S.rf
  generalize hlo : ([] : List Loc) = locs at hS
  refine lv_aload_n hx hb dX2_makesRoom_0 rfl (lv_at hl 0 rfl) ?_
  refine x_calli (va_runV (As := []) (rest := []) ⟨hx, hb, hml, hown, hts⟩ (k_X2_usedBytes l D bx ba cI cJ cZ H.size σ) (cwV 0 hts gX2_makesRoom_X2_usedBytes rfl rfl rfl (by decide +kernel) ⟨Nat.le_of_ble_eq_true rfl, Nat.le_of_ble_eq_true rfl⟩) (xPreV mE_ok hE hK hA hP hD hS (q0 := 0) (ci := 2) rfl rfl rfl) rfl rfl hl.1 rfl (lv_room (Nat.le_of_ble_eq_true rfl)) dX2_makesRoom_1 ⟨Nat.le_of_ble_eq_true rfl, Nat.le_of_ble_eq_true rfl⟩) hD hS hA (fun r u H locs hp hP hD hS => ?_)
  obtain ⟨rfl, hu9⟩ := hp
  rw [hu9] at hP hD
  refine lv_iload_n hx hb dX2_makesRoom_4 rfl (lv_at hl 1 rfl) ?_
  refine lv_iadd hx hb dX2_makesRoom_5 ?_
  refine lv_aload_n hx hb dX2_makesRoom_6 rfl (lv_at hl 0 rfl) ?_
  refine m_get hx hb hts hi2 hown hK hP 0 (by decide) (List.mem_of_getElem? (i := 1) rfl) (v := .int (gI σ 3)) rfl dX2_makesRoom_7 (fun _ h => h) ?_
  refine x_icmp_le (tgt := 18) hx hb dX2_makesRoom_10 (by decide) (fun c_1 => ?_) (fun c_1 => ?_)
  · have e18 : mRoom0 σ sz9 = σ := by simp [mRoom0, c_1]
    rw [← e18] at hP hD
    refine lv_aload_n hx hb dX2_makesRoom_18 rfl (lv_at hl 0 rfl) ?_
    refine lv_iconst (v := 1) hx hb dX2_makesRoom_19 (by decide) ?_
    refine x_calli (va_runV (As := [.int 1]) (rest := []) ⟨hx, hb, hml, hown, hts⟩ (k_X2_pinnedBytes l D bx ba cI cJ cZ H.size (mRoom0 σ sz9) true) (cwV 1 hts gX2_makesRoom_X2_pinnedBytes rfl rfl rfl (by decide +kernel) ⟨Nat.le_of_ble_eq_true rfl, Nat.le_of_ble_eq_true rfl⟩) (xPreV mE_ok hE hK hA hP hD hS (q0 := 0) (ci := 2) rfl rfl rfl) rfl rfl hl.1 rfl (lv_room (Nat.le_of_ble_eq_true rfl)) dX2_makesRoom_20 ⟨Nat.le_of_ble_eq_true rfl, Nat.le_of_ble_eq_true rfl⟩) hD hS hA (fun r u H locs hp hP hD hS => ?_)
    obtain ⟨rfl, hu9⟩ := hp
    rw [hu9] at hP hD
    refine lv_iload_n hx hb dX2_makesRoom_23 rfl (lv_at hl 1 rfl) ?_
    refine lv_iadd hx hb dX2_makesRoom_24 ?_
    refine lv_aload_n hx hb dX2_makesRoom_25 rfl (lv_at hl 0 rfl) ?_
    refine m_get hx hb hts hi2 hown hK hP 0 (by decide) (List.mem_of_getElem? (i := 1) rfl) (v := .int (gI (mRoom0 σ sz9) 3)) rfl dX2_makesRoom_26 (fun _ h => h) ?_
    refine x_icmp_le (tgt := 34) hx hb dX2_makesRoom_29 (by decide) (fun c_2 => ?_) (fun c_2 => ?_)
    · rcases h with h | ⟨h0, hR, hE9⟩
      · exact absurd h c_2
      have loop : ∀ (n j : Nat) (ls : Array Slot) (H : Heap) (locs : List Loc), j ≤ N → N - j < n → va_P D vwCl (mW bx ba cI cJ cZ (τ j)) H → va_D A (mW bx ba cI cJ cZ (τ j)) → va_S A s.heap H locs → lv_has ls 3 [(0, .ref bx), (1, .int sz9)] → W p l e (headSpec wsX2_makesRoom ({ frames := 4, cells := 0, slots := 0, locals := 160 } : Room)).room s m [.ref bx, .int sz9].toArray below meth c H locs 0 0 (MQ below (va_Qi (fun (r : Int32) (u : St) => r = bI (!decide (gI (mRoom0 σ sz9) 3 < mPin (mRoom0 σ sz9) true + sz9)) ∧ u = (if gI (mRoom0 σ sz9) 3 < mPin (mRoom0 σ sz9) true + sz9 then mRoom0 σ sz9 else τ N)) (xB D (mT cI cJ cZ) (mW bx ba cI cJ cZ) A) A) [.ref bx, .int sz9].toArray s 0 0 A) (F0 m 34 ls []) := by
        intro n
        induction n with
        | zero =>
          intro j ls H locs h1 h2
          exact absurd h2 (by omega)
        | succ n ih =>
          intro j ls H locs hj hn hP hD hS hl
          refine lv_aload_n hx hb dX2_makesRoom_34 rfl (lv_at hl 0 rfl) ?_
          refine x_calli (va_runV (As := []) (rest := []) ⟨hx, hb, hml, hown, hts⟩ (k_X2_usedBytes l D bx ba cI cJ cZ H.size (τ j)) (cwV 0 hts gX2_makesRoom_X2_usedBytes rfl rfl rfl (by decide +kernel) ⟨Nat.le_of_ble_eq_true rfl, Nat.le_of_ble_eq_true rfl⟩) (xPreV mE_ok hE hK hA hP hD hS (q0 := 0) (ci := 2) rfl rfl rfl) rfl rfl hl.1 rfl (lv_room (Nat.le_of_ble_eq_true rfl)) dX2_makesRoom_35 ⟨Nat.le_of_ble_eq_true rfl, Nat.le_of_ble_eq_true rfl⟩) hD hS hA (fun r u H locs hp hP hD hS => ?_)
          obtain ⟨rfl, hu9⟩ := hp
          rw [hu9] at hP hD
          refine lv_iload_n hx hb dX2_makesRoom_38 rfl (lv_at hl 1 rfl) ?_
          refine lv_iadd hx hb dX2_makesRoom_39 ?_
          refine lv_aload_n hx hb dX2_makesRoom_40 rfl (lv_at hl 0 rfl) ?_
          refine m_get hx hb hts hi2 hown hK hP 0 (by decide) (List.mem_of_getElem? (i := 1) rfl) (v := .int (gI (τ j) 3)) rfl dX2_makesRoom_41 (fun _ h => h) ?_
          refine x_icmp_le (tgt := 54) hx hb dX2_makesRoom_44 (by decide) (fun c_3 => ?_) (fun c_3 => ?_)
          · have hjN : j = N := by
              rcases Nat.lt_or_ge j N with q | q
              · exact absurd (hR j q).1 c_3
              · omega
            subst hjN
            refine lv_iconst (v := 1) hx hb dX2_makesRoom_54 (by decide) ?_
            exact x_zret (b := true) hx hb hr hlocks hK (τ j) hP hD hS ⟨by simp [c_2], by simp [c_2]⟩ dX2_makesRoom_55
          · have hlt : j < N := by
              rcases Nat.lt_or_ge j N with q | q
              · exact q
              · have hjN : j = N := by omega
                subst hjN
                exact absurd c_3 hE9
            obtain ⟨-, k, hk, hat, hst⟩ := hR j hlt
            refine lv_aload_n hx hb dX2_makesRoom_47 rfl (lv_at hl 0 rfl) ?_
            refine x_callv (va_runV (As := []) (rest := []) ⟨hx, hb, hml, hown, hts⟩ (k_X2_firstLeaves l D bx ba cI cJ cZ H.size (τ j) hk hat) (cwV 0 hts gX2_makesRoom_X2_firstLeaves rfl rfl rfl (by decide +kernel) ⟨Nat.le_of_ble_eq_true rfl, Nat.le_of_ble_eq_true rfl⟩) (xPreV mE_ok hE hK hA hP hD hS (q0 := 0) (ci := 2) rfl rfl rfl) rfl rfl hl.1 rfl (lv_room (Nat.le_of_ble_eq_true rfl)) dX2_makesRoom_48 ⟨Nat.le_of_ble_eq_true rfl, Nat.le_of_ble_eq_true rfl⟩) hD hS hA (fun u H locs hp hP hD hS => ?_)
            rw [hp, ← hst] at hP hD
            refine lv_goto (tgt := 34) hx hb dX2_makesRoom_51 (by decide) ?_
            exact ih (j + 1) ls H locs hlt (by omega) hP hD hS (by exact lv_sub hl [0, 1] rfl)
      rw [← h0] at hP hD
      exact loop (N + 1) 0 _ _ _ (Nat.zero_le _) (by omega) hP hD hS (lv_sub hl [0, 1] rfl)
    · refine lv_iconst (v := 0) hx hb dX2_makesRoom_32 (by decide) ?_
      exact x_zret (b := false) hx hb hr hlocks hK (mRoom0 σ sz9) hP hD hS ⟨by simp [c_2], by simp [c_2]⟩ dX2_makesRoom_33
  · refine lv_aload_n hx hb dX2_makesRoom_13 rfl (lv_at hl 0 rfl) ?_
    refine x_calli (va_runV (As := []) (rest := []) ⟨hx, hb, hml, hown, hts⟩ (k_X2_removeOver l D bx ba cI cJ cZ H.size σ) (cwV 0 hts gX2_makesRoom_X2_removeOver rfl rfl rfl (by decide +kernel) ⟨Nat.le_of_ble_eq_true rfl, Nat.le_of_ble_eq_true rfl⟩) (xPreV mE_ok hE hK hA hP hD hS (q0 := 0) (ci := 2) rfl rfl rfl) rfl rfl hl.1 rfl (lv_room (Nat.le_of_ble_eq_true rfl)) dX2_makesRoom_14 ⟨Nat.le_of_ble_eq_true rfl, Nat.le_of_ble_eq_true rfl⟩) hD hS hA (fun r u H locs hp hP hD hS => ?_)
    obtain ⟨rfl, hu9⟩ := hp
    rw [hu9] at hP hD
    refine lv_istore_n (lv' := [(2, .int (rmC σ 32)), (0, .ref bx), (1, .int sz9)]) hx hb dX2_makesRoom_17 rfl hl (by decide) rfl (fun ls hl => ?_)
    have e18 : mRoom0 σ sz9 = rmO σ := by simp [mRoom0, c_1]
    rw [← e18] at hP hD
    refine lv_aload_n hx hb dX2_makesRoom_18 rfl (lv_at hl 1 rfl) ?_
    refine lv_iconst (v := 1) hx hb dX2_makesRoom_19 (by decide) ?_
    refine x_calli (va_runV (As := [.int 1]) (rest := []) ⟨hx, hb, hml, hown, hts⟩ (k_X2_pinnedBytes l D bx ba cI cJ cZ H.size (mRoom0 σ sz9) true) (cwV 1 hts gX2_makesRoom_X2_pinnedBytes rfl rfl rfl (by decide +kernel) ⟨Nat.le_of_ble_eq_true rfl, Nat.le_of_ble_eq_true rfl⟩) (xPreV mE_ok hE hK hA hP hD hS (q0 := 0) (ci := 2) rfl rfl rfl) rfl rfl hl.1 rfl (lv_room (Nat.le_of_ble_eq_true rfl)) dX2_makesRoom_20 ⟨Nat.le_of_ble_eq_true rfl, Nat.le_of_ble_eq_true rfl⟩) hD hS hA (fun r u H locs hp hP hD hS => ?_)
    obtain ⟨rfl, hu9⟩ := hp
    rw [hu9] at hP hD
    refine lv_iload_n hx hb dX2_makesRoom_23 rfl (lv_at hl 2 rfl) ?_
    refine lv_iadd hx hb dX2_makesRoom_24 ?_
    refine lv_aload_n hx hb dX2_makesRoom_25 rfl (lv_at hl 1 rfl) ?_
    refine m_get hx hb hts hi2 hown hK hP 0 (by decide) (List.mem_of_getElem? (i := 1) rfl) (v := .int (gI (mRoom0 σ sz9) 3)) rfl dX2_makesRoom_26 (fun _ h => h) ?_
    refine x_icmp_le (tgt := 34) hx hb dX2_makesRoom_29 (by decide) (fun c_4 => ?_) (fun c_4 => ?_)
    · rcases h with h | ⟨h0, hR, hE9⟩
      · exact absurd h c_4
      have loop : ∀ (n j : Nat) (ls : Array Slot) (H : Heap) (locs : List Loc), j ≤ N → N - j < n → va_P D vwCl (mW bx ba cI cJ cZ (τ j)) H → va_D A (mW bx ba cI cJ cZ (τ j)) → va_S A s.heap H locs → lv_has ls 3 [(0, .ref bx), (1, .int sz9)] → W p l e (headSpec wsX2_makesRoom ({ frames := 4, cells := 0, slots := 0, locals := 160 } : Room)).room s m [.ref bx, .int sz9].toArray below meth c H locs 0 0 (MQ below (va_Qi (fun (r : Int32) (u : St) => r = bI (!decide (gI (mRoom0 σ sz9) 3 < mPin (mRoom0 σ sz9) true + sz9)) ∧ u = (if gI (mRoom0 σ sz9) 3 < mPin (mRoom0 σ sz9) true + sz9 then mRoom0 σ sz9 else τ N)) (xB D (mT cI cJ cZ) (mW bx ba cI cJ cZ) A) A) [.ref bx, .int sz9].toArray s 0 0 A) (F0 m 34 ls []) := by
        intro n
        induction n with
        | zero =>
          intro j ls H locs h1 h2
          exact absurd h2 (by omega)
        | succ n ih =>
          intro j ls H locs hj hn hP hD hS hl
          refine lv_aload_n hx hb dX2_makesRoom_34 rfl (lv_at hl 0 rfl) ?_
          refine x_calli (va_runV (As := []) (rest := []) ⟨hx, hb, hml, hown, hts⟩ (k_X2_usedBytes l D bx ba cI cJ cZ H.size (τ j)) (cwV 0 hts gX2_makesRoom_X2_usedBytes rfl rfl rfl (by decide +kernel) ⟨Nat.le_of_ble_eq_true rfl, Nat.le_of_ble_eq_true rfl⟩) (xPreV mE_ok hE hK hA hP hD hS (q0 := 0) (ci := 2) rfl rfl rfl) rfl rfl hl.1 rfl (lv_room (Nat.le_of_ble_eq_true rfl)) dX2_makesRoom_35 ⟨Nat.le_of_ble_eq_true rfl, Nat.le_of_ble_eq_true rfl⟩) hD hS hA (fun r u H locs hp hP hD hS => ?_)
          obtain ⟨rfl, hu9⟩ := hp
          rw [hu9] at hP hD
          refine lv_iload_n hx hb dX2_makesRoom_38 rfl (lv_at hl 1 rfl) ?_
          refine lv_iadd hx hb dX2_makesRoom_39 ?_
          refine lv_aload_n hx hb dX2_makesRoom_40 rfl (lv_at hl 0 rfl) ?_
          refine m_get hx hb hts hi2 hown hK hP 0 (by decide) (List.mem_of_getElem? (i := 1) rfl) (v := .int (gI (τ j) 3)) rfl dX2_makesRoom_41 (fun _ h => h) ?_
          refine x_icmp_le (tgt := 54) hx hb dX2_makesRoom_44 (by decide) (fun c_5 => ?_) (fun c_5 => ?_)
          · have hjN : j = N := by
              rcases Nat.lt_or_ge j N with q | q
              · exact absurd (hR j q).1 c_5
              · omega
            subst hjN
            refine lv_iconst (v := 1) hx hb dX2_makesRoom_54 (by decide) ?_
            exact x_zret (b := true) hx hb hr hlocks hK (τ j) hP hD hS ⟨by simp [c_4], by simp [c_4]⟩ dX2_makesRoom_55
          · have hlt : j < N := by
              rcases Nat.lt_or_ge j N with q | q
              · exact q
              · have hjN : j = N := by omega
                subst hjN
                exact absurd c_5 hE9
            obtain ⟨-, k, hk, hat, hst⟩ := hR j hlt
            refine lv_aload_n hx hb dX2_makesRoom_47 rfl (lv_at hl 0 rfl) ?_
            refine x_callv (va_runV (As := []) (rest := []) ⟨hx, hb, hml, hown, hts⟩ (k_X2_firstLeaves l D bx ba cI cJ cZ H.size (τ j) hk hat) (cwV 0 hts gX2_makesRoom_X2_firstLeaves rfl rfl rfl (by decide +kernel) ⟨Nat.le_of_ble_eq_true rfl, Nat.le_of_ble_eq_true rfl⟩) (xPreV mE_ok hE hK hA hP hD hS (q0 := 0) (ci := 2) rfl rfl rfl) rfl rfl hl.1 rfl (lv_room (Nat.le_of_ble_eq_true rfl)) dX2_makesRoom_48 ⟨Nat.le_of_ble_eq_true rfl, Nat.le_of_ble_eq_true rfl⟩) hD hS hA (fun u H locs hp hP hD hS => ?_)
            rw [hp, ← hst] at hP hD
            refine lv_goto (tgt := 34) hx hb dX2_makesRoom_51 (by decide) ?_
            exact ih (j + 1) ls H locs hlt (by omega) hP hD hS (by exact lv_sub hl [0, 1] rfl)
      rw [← h0] at hP hD
      exact loop (N + 1) 0 _ _ _ (Nat.zero_le _) (by omega) hP hD hS (lv_sub hl [1, 2] rfl)
    · refine lv_iconst (v := 0) hx hb dX2_makesRoom_32 (by decide) ?_
      exact x_zret (b := false) hx hb hr hlocks hK (mRoom0 σ sz9) hP hD hS ⟨by simp [c_4], by simp [c_4]⟩ dX2_makesRoom_33
set_option maxHeartbeats 4000000 in
set_option maxRecDepth 100000 in
theorem k_X2_setCapacity (l : Launch) (D : va_G) (bx : Nat) (ba : Nat → Nat) (cI cJ cZ : ClassId) (sz : Nat) (σ : St) (t : Int32) (N : Nat) (τ : Nat → St) (h : inR t 1 10000 = false ∨ t < mPin σ false ∨ (τ 0 = mCap0 σ t ∧ mRun (fun s => t < used s) N τ)) : Met l yX2_setCapacity wsX2_setCapacity ({ frames := 4, cells := 0, slots := 0, locals := 160 } : Room) (va_Pc [.ref bx, .int t] (xPre D (mT cI cJ cZ) mE (mW bx ba cI cJ cZ) σ sz)) (va_Qi (fun (r : Int32) (u : St) => r = (if inR t 1 10000 then (if t < mPin σ false then 0 else nI N) else 0) ∧ u = (if inR t 1 10000 then (if t < mPin σ false then uI σ 20 2 else τ N) else uI σ 20 1)) (xB D (mT cI cJ cZ) (mW bx ba cI cJ cZ) (va_A (mW bx ba cI cJ cZ σ) sz)) (va_A (mW bx ba cI cJ cZ σ) sz)) 0 0 (va_A (mW bx ba cI cJ cZ σ) sz) := by
  refine xOpen (w := (mW bx ba cI cJ cZ)) (σ := σ) (cc := cX2_setCapacity) (maxL := 3) (ret := some .int) (QQ := fun A => va_Qi (fun (r : Int32) (u : St) => r = (if inR t 1 10000 then (if t < mPin σ false then 0 else nI N) else 0) ∧ u = (if inR t 1 10000 then (if t < mPin σ false then uI σ 20 2 else τ N) else uI σ 20 1)) (xB D (mT cI cJ cZ) (mW bx ba cI cJ cZ) A) A) (by decide) rfl (Nat.le_of_ble_eq_true rfl) ?_
  intro p e s m below meth c A hx hb hr hml hown hts hlocks hname hK hE hA hP hD hS ls hl
  have hl : lv_has ls 3 [(0, .ref bx), (1, .int t)] := hl
  have hown : s.vm.findClass RX2 = some m.cls := hown
  have hi2 : ∀ w ∈ wsX20, w ∈ wsX2_setCapacity := (fun _ h => List.mem_cons_of_mem _ (List.mem_append_right _ h))
  generalize hH : s.heap = H at hP
  have hS : va_S A s.heap H [] := by rw [← hH]; exact va_S.rf
  generalize hlo : ([] : List Loc) = locs at hS
  refine lv_aload_n hx hb dX2_setCapacity_0 rfl (lv_at hl 0 rfl) ?_
  refine lv_iload_n hx hb dX2_setCapacity_1 rfl (lv_at hl 1 rfl) ?_
  refine lv_iconst (v := 1) hx hb dX2_setCapacity_2 (by decide) ?_
  refine lv_sipush (v := 10000) hx hb dX2_setCapacity_3 (by decide) ?_
  refine x_calli (va_runS (As := [.int t, .int 1, .int 10000]) (rest := [.ref bx]) ⟨hx, hb, hml, hown, hts⟩ (k_X2_in l D bx ba cI cJ cZ H.size σ t 1 10000) (va_cwS 3 hts gX2_setCapacity_X2_in rfl rfl rfl (by decide +kernel) ⟨Nat.le_of_ble_eq_true rfl, Nat.le_of_ble_eq_true rfl⟩) (xPreS mE_ok hE hK hA hP hD hS) rfl rfl hl.1 rfl (lv_room (Nat.le_of_ble_eq_true rfl)) dX2_setCapacity_6 ⟨Nat.le_of_ble_eq_true rfl, Nat.le_of_ble_eq_true rfl⟩) hD hS hA (fun r u H locs hp hP hD hS => ?_)
  obtain ⟨rfl, hu9⟩ := hp
  rw [hu9] at hP hD
  refine x_ifne (tgt := 16) hx hb dX2_setCapacity_9 (by decide) (fun c_1 => ?_) (fun c_1 => ?_)
  · refine lv_aload_n hx hb dX2_setCapacity_16 rfl (lv_at hl 0 rfl) ?_
    refine lv_iconst (v := 0) hx hb dX2_setCapacity_17 (by decide) ?_
    refine x_calli (va_runV (As := [.int 0]) (rest := [.ref bx]) ⟨hx, hb, hml, hown, hts⟩ (k_X2_pinnedBytes l D bx ba cI cJ cZ H.size σ false) (cwV 1 hts gX2_setCapacity_X2_pinnedBytes rfl rfl rfl (by decide +kernel) ⟨Nat.le_of_ble_eq_true rfl, Nat.le_of_ble_eq_true rfl⟩) (xPreV mE_ok hE hK hA hP hD hS (q0 := 0) (ci := 2) rfl rfl rfl) rfl rfl hl.1 rfl (lv_room (Nat.le_of_ble_eq_true rfl)) dX2_setCapacity_18 ⟨Nat.le_of_ble_eq_true rfl, Nat.le_of_ble_eq_true rfl⟩) hD hS hA (fun r u H locs hp hP hD hS => ?_)
    obtain ⟨rfl, hu9⟩ := hp
    rw [hu9] at hP hD
    refine lv_iload_n hx hb dX2_setCapacity_21 rfl (lv_at hl 1 rfl) ?_
    refine x_icmp_le (tgt := 29) hx hb dX2_setCapacity_22 (by decide) (fun c_2 => ?_) (fun c_2 => ?_)
    · refine lv_iconst (v := 0) hx hb dX2_setCapacity_29 (by decide) ?_
      refine m_put hx hb hts hi2 hown hK hP hD hS 21 (by decide) (List.mem_of_getElem? (i := 1) rfl) (v := .int 0) (ty := .int) (uI σ 20 0) (mF_21 bx ba cI cJ cZ _ _) rfl (by decide +kernel) rfl rfl dX2_setCapacity_30 (fun _ h => h) (fun H locs hP hD hS => ?_)
      refine lv_aload_n hx hb dX2_setCapacity_33 rfl (lv_at hl 0 rfl) ?_
      refine m_get hx hb hts hi2 hown hK hP 21 (by decide) (List.mem_of_getElem? (i := 1) rfl) (v := .int 0) rfl dX2_setCapacity_34 (fun _ h => h) ?_
      refine lv_if_le (tgt := 42) hx hb dX2_setCapacity_37 (by decide) (fun _ => ?_) (fun c_3 => absurd (by decide) c_3)
      refine lv_aload_n hx hb dX2_setCapacity_42 rfl (lv_at hl 0 rfl) ?_
      refine lv_iload_n hx hb dX2_setCapacity_43 rfl (lv_at hl 1 rfl) ?_
      refine m_put hx hb hts hi2 hown hK hP hD hS 0 (by decide) (List.mem_of_getElem? (i := 2) rfl) (v := .int t) (ty := .int) (uI (uI σ 20 0) 3 t) (mF_0 bx ba cI cJ cZ _ _) rfl (by decide +kernel) rfl rfl dX2_setCapacity_44 (fun _ h => h) (fun H locs hP hD hS => ?_)
      refine lv_aload_n hx hb dX2_setCapacity_47 rfl (lv_at hl 0 rfl) ?_
      refine x_calli (va_runV (As := []) (rest := []) ⟨hx, hb, hml, hown, hts⟩ (k_X2_usedBytes l D bx ba cI cJ cZ H.size (uI (uI σ 20 0) 3 t)) (cwV 0 hts gX2_setCapacity_X2_usedBytes rfl rfl rfl (by decide +kernel) ⟨Nat.le_of_ble_eq_true rfl, Nat.le_of_ble_eq_true rfl⟩) (xPreV mE_ok hE hK hA hP hD hS (q0 := 0) (ci := 2) rfl rfl rfl) rfl rfl hl.1 rfl (lv_room (Nat.le_of_ble_eq_true rfl)) dX2_setCapacity_48 ⟨Nat.le_of_ble_eq_true rfl, Nat.le_of_ble_eq_true rfl⟩) hD hS hA (fun r u H locs hp hP hD hS => ?_)
      obtain ⟨rfl, hu9⟩ := hp
      rw [hu9] at hP hD
      refine lv_iload_n hx hb dX2_setCapacity_51 rfl (lv_at hl 1 rfl) ?_
      refine x_icmp_le (tgt := 60) hx hb dX2_setCapacity_52 (by decide) (fun c_4 => ?_) (fun c_4 => ?_)
      · have e60 : mCap0 σ t = uI (uI σ 20 0) 3 t := by simp [mCap0, c_4]
        rw [← e60] at hP hD
        refine lv_iconst (v := 0) hx hb dX2_setCapacity_60 (by decide) ?_
        refine lv_istore_n (lv' := [(2, .int 0), (0, .ref bx), (1, .int t)]) hx hb dX2_setCapacity_61 rfl hl (by decide) rfl (fun ls hl => ?_)
        rcases h with h | h | ⟨h0, hR, hE9⟩
        · exact absurd (h.symm.trans c_1) (by decide)
        · exact absurd h c_2
        have loop : ∀ (n j : Nat) (ls : Array Slot) (H : Heap) (locs : List Loc), j ≤ N → N - j < n → va_P D vwCl (mW bx ba cI cJ cZ (τ j)) H → va_D A (mW bx ba cI cJ cZ (τ j)) → va_S A s.heap H locs → lv_has ls 3 [(0, .ref bx), (1, .int t), (2, .int (nI j))] → W p l e (headSpec wsX2_setCapacity ({ frames := 4, cells := 0, slots := 0, locals := 160 } : Room)).room s m [.ref bx, .int t].toArray below meth c H locs 0 0 (MQ below (va_Qi (fun (r : Int32) (u : St) => r = (if inR t 1 10000 then (if t < mPin σ false then 0 else nI N) else 0) ∧ u = (if inR t 1 10000 then (if t < mPin σ false then uI σ 20 2 else τ N) else uI σ 20 1)) (xB D (mT cI cJ cZ) (mW bx ba cI cJ cZ) A) A) [.ref bx, .int t].toArray s 0 0 A) (F0 m 62 ls []) := by
          intro n
          induction n with
          | zero =>
            intro j ls H locs h1 h2
            exact absurd h2 (by omega)
          | succ n ih =>
            intro j ls H locs hj hn hP hD hS hl
            refine lv_aload_n hx hb dX2_setCapacity_62 rfl (lv_at hl 0 rfl) ?_
            refine x_calli (va_runV (As := []) (rest := []) ⟨hx, hb, hml, hown, hts⟩ (k_X2_usedBytes l D bx ba cI cJ cZ H.size (τ j)) (cwV 0 hts gX2_setCapacity_X2_usedBytes rfl rfl rfl (by decide +kernel) ⟨Nat.le_of_ble_eq_true rfl, Nat.le_of_ble_eq_true rfl⟩) (xPreV mE_ok hE hK hA hP hD hS (q0 := 0) (ci := 2) rfl rfl rfl) rfl rfl hl.1 rfl (lv_room (Nat.le_of_ble_eq_true rfl)) dX2_setCapacity_63 ⟨Nat.le_of_ble_eq_true rfl, Nat.le_of_ble_eq_true rfl⟩) hD hS hA (fun r u H locs hp hP hD hS => ?_)
            obtain ⟨rfl, hu9⟩ := hp
            rw [hu9] at hP hD
            refine lv_iload_n hx hb dX2_setCapacity_66 rfl (lv_at hl 1 rfl) ?_
            refine x_icmp_le (tgt := 80) hx hb dX2_setCapacity_67 (by decide) (fun c_5 => ?_) (fun c_5 => ?_)
            · have hjN : j = N := by
                rcases Nat.lt_or_ge j N with q | q
                · exact absurd (hR j q).1 c_5
                · omega
              subst hjN
              refine lv_iload_n hx hb dX2_setCapacity_80 rfl (lv_at hl 2 rfl) ?_
              exact x_iret hx hb hr hlocks hK (τ j) hP hD hS ⟨by simp [c_1, c_2], by simp [c_1, c_2]⟩ dX2_setCapacity_81
            · have hlt : j < N := by
                rcases Nat.lt_or_ge j N with q | q
                · exact q
                · have hjN : j = N := by omega
                  subst hjN
                  exact absurd c_5 hE9
              obtain ⟨-, k, hk, hat, hst⟩ := hR j hlt
              refine lv_aload_n hx hb dX2_setCapacity_70 rfl (lv_at hl 0 rfl) ?_
              refine x_callv (va_runV (As := []) (rest := []) ⟨hx, hb, hml, hown, hts⟩ (k_X2_firstLeaves l D bx ba cI cJ cZ H.size (τ j) hk hat) (cwV 0 hts gX2_setCapacity_X2_firstLeaves rfl rfl rfl (by decide +kernel) ⟨Nat.le_of_ble_eq_true rfl, Nat.le_of_ble_eq_true rfl⟩) (xPreV mE_ok hE hK hA hP hD hS (q0 := 0) (ci := 2) rfl rfl rfl) rfl rfl hl.1 rfl (lv_room (Nat.le_of_ble_eq_true rfl)) dX2_setCapacity_71 ⟨Nat.le_of_ble_eq_true rfl, Nat.le_of_ble_eq_true rfl⟩) hD hS hA (fun u H locs hp hP hD hS => ?_)
              rw [hp, ← hst] at hP hD
              refine lv_iinc (v := (nI j) + 1) (lv' := [(2, .int ((nI j) + 1)), (0, .ref bx), (1, .int t)]) hx hb dX2_setCapacity_74 hl (k := 2) rfl rfl (by decide) rfl (fun ls hl => ?_)
              refine lv_goto (tgt := 62) hx hb dX2_setCapacity_77 (by decide) ?_
              exact ih (j + 1) ls H locs hlt (by omega) hP hD hS (by rw [nI_succ]; exact lv_sub hl [1, 2, 0] rfl)
        rw [← h0] at hP hD
        exact loop (N + 1) 0 _ _ _ (Nat.zero_le _) (by omega) hP hD hS (lv_sub hl [1, 2, 0] rfl)
      · refine lv_aload_n hx hb dX2_setCapacity_55 rfl (lv_at hl 0 rfl) ?_
        refine x_calli (va_runV (As := []) (rest := []) ⟨hx, hb, hml, hown, hts⟩ (k_X2_removeOver l D bx ba cI cJ cZ H.size (uI (uI σ 20 0) 3 t)) (cwV 0 hts gX2_setCapacity_X2_removeOver rfl rfl rfl (by decide +kernel) ⟨Nat.le_of_ble_eq_true rfl, Nat.le_of_ble_eq_true rfl⟩) (xPreV mE_ok hE hK hA hP hD hS (q0 := 0) (ci := 2) rfl rfl rfl) rfl rfl hl.1 rfl (lv_room (Nat.le_of_ble_eq_true rfl)) dX2_setCapacity_56 ⟨Nat.le_of_ble_eq_true rfl, Nat.le_of_ble_eq_true rfl⟩) hD hS hA (fun r u H locs hp hP hD hS => ?_)
        obtain ⟨rfl, hu9⟩ := hp
        rw [hu9] at hP hD
        refine lv_istore_n (lv' := [(2, .int (rmC (uI (uI σ 20 0) 3 t) 32)), (0, .ref bx), (1, .int t)]) hx hb dX2_setCapacity_59 rfl hl (by decide) rfl (fun ls hl => ?_)
        have e60 : mCap0 σ t = rmO (uI (uI σ 20 0) 3 t) := by simp [mCap0, c_4]
        rw [← e60] at hP hD
        refine lv_iconst (v := 0) hx hb dX2_setCapacity_60 (by decide) ?_
        refine lv_istore_n (lv' := [(2, .int 0), (0, .ref bx), (1, .int t)]) hx hb dX2_setCapacity_61 rfl hl (by decide) rfl (fun ls hl => ?_)
        rcases h with h | h | ⟨h0, hR, hE9⟩
        · exact absurd (h.symm.trans c_1) (by decide)
        · exact absurd h c_2
        have loop : ∀ (n j : Nat) (ls : Array Slot) (H : Heap) (locs : List Loc), j ≤ N → N - j < n → va_P D vwCl (mW bx ba cI cJ cZ (τ j)) H → va_D A (mW bx ba cI cJ cZ (τ j)) → va_S A s.heap H locs → lv_has ls 3 [(0, .ref bx), (1, .int t), (2, .int (nI j))] → W p l e (headSpec wsX2_setCapacity ({ frames := 4, cells := 0, slots := 0, locals := 160 } : Room)).room s m [.ref bx, .int t].toArray below meth c H locs 0 0 (MQ below (va_Qi (fun (r : Int32) (u : St) => r = (if inR t 1 10000 then (if t < mPin σ false then 0 else nI N) else 0) ∧ u = (if inR t 1 10000 then (if t < mPin σ false then uI σ 20 2 else τ N) else uI σ 20 1)) (xB D (mT cI cJ cZ) (mW bx ba cI cJ cZ) A) A) [.ref bx, .int t].toArray s 0 0 A) (F0 m 62 ls []) := by
          intro n
          induction n with
          | zero =>
            intro j ls H locs h1 h2
            exact absurd h2 (by omega)
          | succ n ih =>
            intro j ls H locs hj hn hP hD hS hl
            refine lv_aload_n hx hb dX2_setCapacity_62 rfl (lv_at hl 0 rfl) ?_
            refine x_calli (va_runV (As := []) (rest := []) ⟨hx, hb, hml, hown, hts⟩ (k_X2_usedBytes l D bx ba cI cJ cZ H.size (τ j)) (cwV 0 hts gX2_setCapacity_X2_usedBytes rfl rfl rfl (by decide +kernel) ⟨Nat.le_of_ble_eq_true rfl, Nat.le_of_ble_eq_true rfl⟩) (xPreV mE_ok hE hK hA hP hD hS (q0 := 0) (ci := 2) rfl rfl rfl) rfl rfl hl.1 rfl (lv_room (Nat.le_of_ble_eq_true rfl)) dX2_setCapacity_63 ⟨Nat.le_of_ble_eq_true rfl, Nat.le_of_ble_eq_true rfl⟩) hD hS hA (fun r u H locs hp hP hD hS => ?_)
            obtain ⟨rfl, hu9⟩ := hp
            rw [hu9] at hP hD
            refine lv_iload_n hx hb dX2_setCapacity_66 rfl (lv_at hl 1 rfl) ?_
            refine x_icmp_le (tgt := 80) hx hb dX2_setCapacity_67 (by decide) (fun c_6 => ?_) (fun c_6 => ?_)
            · have hjN : j = N := by
                rcases Nat.lt_or_ge j N with q | q
                · exact absurd (hR j q).1 c_6
                · omega
              subst hjN
              refine lv_iload_n hx hb dX2_setCapacity_80 rfl (lv_at hl 2 rfl) ?_
              exact x_iret hx hb hr hlocks hK (τ j) hP hD hS ⟨by simp [c_1, c_2], by simp [c_1, c_2]⟩ dX2_setCapacity_81
            · have hlt : j < N := by
                rcases Nat.lt_or_ge j N with q | q
                · exact q
                · have hjN : j = N := by omega
                  subst hjN
                  exact absurd c_6 hE9
              obtain ⟨-, k, hk, hat, hst⟩ := hR j hlt
              refine lv_aload_n hx hb dX2_setCapacity_70 rfl (lv_at hl 0 rfl) ?_
              refine x_callv (va_runV (As := []) (rest := []) ⟨hx, hb, hml, hown, hts⟩ (k_X2_firstLeaves l D bx ba cI cJ cZ H.size (τ j) hk hat) (cwV 0 hts gX2_setCapacity_X2_firstLeaves rfl rfl rfl (by decide +kernel) ⟨Nat.le_of_ble_eq_true rfl, Nat.le_of_ble_eq_true rfl⟩) (xPreV mE_ok hE hK hA hP hD hS (q0 := 0) (ci := 2) rfl rfl rfl) rfl rfl hl.1 rfl (lv_room (Nat.le_of_ble_eq_true rfl)) dX2_setCapacity_71 ⟨Nat.le_of_ble_eq_true rfl, Nat.le_of_ble_eq_true rfl⟩) hD hS hA (fun u H locs hp hP hD hS => ?_)
              rw [hp, ← hst] at hP hD
              refine lv_iinc (v := (nI j) + 1) (lv' := [(2, .int ((nI j) + 1)), (0, .ref bx), (1, .int t)]) hx hb dX2_setCapacity_74 hl (k := 2) rfl rfl (by decide) rfl (fun ls hl => ?_)
              refine lv_goto (tgt := 62) hx hb dX2_setCapacity_77 (by decide) ?_
              exact ih (j + 1) ls H locs hlt (by omega) hP hD hS (by rw [nI_succ]; exact lv_sub hl [1, 2, 0] rfl)
        rw [← h0] at hP hD
        exact loop (N + 1) 0 _ _ _ (Nat.zero_le _) (by omega) hP hD hS (lv_sub hl [1, 2, 0] rfl)
    · refine lv_iconst (v := 2) hx hb dX2_setCapacity_25 (by decide) ?_
      refine lv_goto (tgt := 30) hx hb dX2_setCapacity_26 (by decide) ?_
      refine m_put hx hb hts hi2 hown hK hP hD hS 21 (by decide) (List.mem_of_getElem? (i := 1) rfl) (v := .int 2) (ty := .int) (uI σ 20 2) (mF_21 bx ba cI cJ cZ _ _) rfl (by decide +kernel) rfl rfl dX2_setCapacity_30 (fun _ h => h) (fun H locs hP hD hS => ?_)
      refine lv_aload_n hx hb dX2_setCapacity_33 rfl (lv_at hl 0 rfl) ?_
      refine m_get hx hb hts hi2 hown hK hP 21 (by decide) (List.mem_of_getElem? (i := 1) rfl) (v := .int 2) rfl dX2_setCapacity_34 (fun _ h => h) ?_
      refine lv_if_le (tgt := 42) hx hb dX2_setCapacity_37 (by decide) (fun c_7 => absurd c_7 (by decide)) (fun _ => ?_)
      refine lv_iconst (v := 0) hx hb dX2_setCapacity_40 (by decide) ?_
      exact x_iret hx hb hr hlocks hK (uI σ 20 2) hP hD hS ⟨by simp [c_1, c_2], by simp [c_1, c_2]⟩ dX2_setCapacity_41
  · refine lv_iconst (v := 1) hx hb dX2_setCapacity_12 (by decide) ?_
    refine lv_goto (tgt := 30) hx hb dX2_setCapacity_13 (by decide) ?_
    refine m_put hx hb hts hi2 hown hK hP hD hS 21 (by decide) (List.mem_of_getElem? (i := 1) rfl) (v := .int 1) (ty := .int) (uI σ 20 1) (mF_21 bx ba cI cJ cZ _ _) rfl (by decide +kernel) rfl rfl dX2_setCapacity_30 (fun _ h => h) (fun H locs hP hD hS => ?_)
    refine lv_aload_n hx hb dX2_setCapacity_33 rfl (lv_at hl 0 rfl) ?_
    refine m_get hx hb hts hi2 hown hK hP 21 (by decide) (List.mem_of_getElem? (i := 1) rfl) (v := .int 1) rfl dX2_setCapacity_34 (fun _ h => h) ?_
    refine lv_if_le (tgt := 42) hx hb dX2_setCapacity_37 (by decide) (fun c_8 => absurd c_8 (by decide)) (fun _ => ?_)
    refine lv_iconst (v := 0) hx hb dX2_setCapacity_40 (by decide) ?_
    exact x_iret hx hb hr hlocks hK (uI σ 20 1) hP hD hS ⟨by simp [c_1, c_1], by simp [c_1, c_1]⟩ dX2_setCapacity_41
set_option maxHeartbeats 4000000 in
set_option maxRecDepth 100000 in
theorem k_X2_wouldLeave (l : Launch) (D : va_G) (bx : Nat) (ba : Nat → Nat) (cI cJ cZ : ClassId) (sz : Nat) (σ : St) (t : Int32) (N : Nat) (h : inR t 1 1000 = false ∨ ¬ gI σ 3 < used (uI σ 20 0) + t ∨ gI σ 3 < mPin (uI σ 20 0) false + t ∨ ((∀ j, j < N → gI σ 3 < (mWl (uI σ 20 0) j).1 + t ∧ ∃ k, k < 32 ∧ atR (uI σ 20 0) (nI j) 32 = some k) ∧ ¬ gI σ 3 < (mWl (uI σ 20 0) N).1 + t)) : Met l yX2_wouldLeave wsX2_wouldLeave ({ frames := 3, cells := 0, slots := 0, locals := 160 } : Room) (va_Pc [.ref bx, .int t] (xPre D (mT cI cJ cZ) mE (mW bx ba cI cJ cZ) σ sz)) (va_Qi (fun (r : Int32) (u : St) => r = (if inR t 1 1000 then (if gI σ 3 < used (uI σ 20 0) + t then (if gI σ 3 < mPin (uI σ 20 0) false + t then -1 else (mWl (uI σ 20 0) N).2) else 0) else 0) ∧ u = (if inR t 1 1000 then (uI σ 20 0) else uI σ 20 1)) (xB D (mT cI cJ cZ) (mW bx ba cI cJ cZ) (va_A (mW bx ba cI cJ cZ σ) sz)) (va_A (mW bx ba cI cJ cZ σ) sz)) 0 0 (va_A (mW bx ba cI cJ cZ σ) sz) := by
  refine xOpen (w := (mW bx ba cI cJ cZ)) (σ := σ) (cc := cX2_wouldLeave) (maxL := 6) (ret := some .int) (QQ := fun A => va_Qi (fun (r : Int32) (u : St) => r = (if inR t 1 1000 then (if gI σ 3 < used (uI σ 20 0) + t then (if gI σ 3 < mPin (uI σ 20 0) false + t then -1 else (mWl (uI σ 20 0) N).2) else 0) else 0) ∧ u = (if inR t 1 1000 then (uI σ 20 0) else uI σ 20 1)) (xB D (mT cI cJ cZ) (mW bx ba cI cJ cZ) A) A) (by decide) rfl (Nat.le_of_ble_eq_true rfl) ?_
  intro p e s m below meth c A hx hb hr hml hown hts hlocks hname hK hE hA hP hD hS ls hl
  have hl : lv_has ls 6 [(0, .ref bx), (1, .int t)] := hl
  have hown : s.vm.findClass RX2 = some m.cls := hown
  have hi2 : ∀ w ∈ wsX20, w ∈ wsX2_wouldLeave := (fun _ h => List.mem_cons_of_mem _ (List.mem_append_right _ h))
  generalize hH : s.heap = H at hP
  have hS : va_S A s.heap H [] := by rw [← hH]; exact va_S.rf
  generalize hlo : ([] : List Loc) = locs at hS
  refine lv_aload_n hx hb dX2_wouldLeave_0 rfl (lv_at hl 0 rfl) ?_
  refine lv_iload_n hx hb dX2_wouldLeave_1 rfl (lv_at hl 1 rfl) ?_
  refine lv_iconst (v := 1) hx hb dX2_wouldLeave_2 (by decide) ?_
  refine lv_sipush (v := 1000) hx hb dX2_wouldLeave_3 (by decide) ?_
  refine x_calli (va_runS (As := [.int t, .int 1, .int 1000]) (rest := [.ref bx]) ⟨hx, hb, hml, hown, hts⟩ (k_X2_in l D bx ba cI cJ cZ H.size σ t 1 1000) (va_cwS 3 hts gX2_wouldLeave_X2_in rfl rfl rfl (by decide +kernel) ⟨Nat.le_of_ble_eq_true rfl, Nat.le_of_ble_eq_true rfl⟩) (xPreS mE_ok hE hK hA hP hD hS) rfl rfl hl.1 rfl (lv_room (Nat.le_of_ble_eq_true rfl)) dX2_wouldLeave_6 ⟨Nat.le_of_ble_eq_true rfl, Nat.le_of_ble_eq_true rfl⟩) hD hS hA (fun r u H locs hp hP hD hS => ?_)
  obtain ⟨rfl, hu9⟩ := hp
  rw [hu9] at hP hD
  refine x_ifeq (tgt := 16) hx hb dX2_wouldLeave_9 (by decide) (fun c_1 => ?_) (fun c_1 => ?_)
  · refine lv_iconst (v := 1) hx hb dX2_wouldLeave_16 (by decide) ?_
    refine m_put hx hb hts hi2 hown hK hP hD hS 21 (by decide) (List.mem_of_getElem? (i := 1) rfl) (v := .int 1) (ty := .int) (uI σ 20 1) (mF_21 bx ba cI cJ cZ _ _) rfl (by decide +kernel) rfl rfl dX2_wouldLeave_17 (fun _ h => h) (fun H locs hP hD hS => ?_)
    refine lv_aload_n hx hb dX2_wouldLeave_20 rfl (lv_at hl 0 rfl) ?_
    refine m_get hx hb hts hi2 hown hK hP 21 (by decide) (List.mem_of_getElem? (i := 1) rfl) (v := .int 1) rfl dX2_wouldLeave_21 (fun _ h => h) ?_
    refine lv_if_le (tgt := 29) hx hb dX2_wouldLeave_24 (by decide) (fun c_2 => absurd c_2 (by decide)) (fun _ => ?_)
    refine lv_iconst (v := 0) hx hb dX2_wouldLeave_27 (by decide) ?_
    exact x_iret hx hb hr hlocks hK (uI σ 20 1) hP hD hS ⟨by simp [c_1], by simp [c_1]⟩ dX2_wouldLeave_28
  · refine lv_iconst (v := 0) hx hb dX2_wouldLeave_12 (by decide) ?_
    refine lv_goto (tgt := 17) hx hb dX2_wouldLeave_13 (by decide) ?_
    refine m_put hx hb hts hi2 hown hK hP hD hS 21 (by decide) (List.mem_of_getElem? (i := 1) rfl) (v := .int 0) (ty := .int) (uI σ 20 0) (mF_21 bx ba cI cJ cZ _ _) rfl (by decide +kernel) rfl rfl dX2_wouldLeave_17 (fun _ h => h) (fun H locs hP hD hS => ?_)
    refine lv_aload_n hx hb dX2_wouldLeave_20 rfl (lv_at hl 0 rfl) ?_
    refine m_get hx hb hts hi2 hown hK hP 21 (by decide) (List.mem_of_getElem? (i := 1) rfl) (v := .int 0) rfl dX2_wouldLeave_21 (fun _ h => h) ?_
    refine lv_if_le (tgt := 29) hx hb dX2_wouldLeave_24 (by decide) (fun _ => ?_) (fun c_3 => absurd (by decide) c_3)
    refine lv_aload_n hx hb dX2_wouldLeave_29 rfl (lv_at hl 0 rfl) ?_
    refine x_calli (va_runV (As := []) (rest := []) ⟨hx, hb, hml, hown, hts⟩ (k_X2_usedBytes l D bx ba cI cJ cZ H.size (uI σ 20 0)) (cwV 0 hts gX2_wouldLeave_X2_usedBytes rfl rfl rfl (by decide +kernel) ⟨Nat.le_of_ble_eq_true rfl, Nat.le_of_ble_eq_true rfl⟩) (xPreV mE_ok hE hK hA hP hD hS (q0 := 0) (ci := 2) rfl rfl rfl) rfl rfl hl.1 rfl (lv_room (Nat.le_of_ble_eq_true rfl)) dX2_wouldLeave_30 ⟨Nat.le_of_ble_eq_true rfl, Nat.le_of_ble_eq_true rfl⟩) hD hS hA (fun r u H locs hp hP hD hS => ?_)
    obtain ⟨rfl, hu9⟩ := hp
    rw [hu9] at hP hD
    refine lv_istore_n (lv' := [(2, .int (used (uI σ 20 0))), (0, .ref bx), (1, .int t)]) hx hb dX2_wouldLeave_33 rfl hl (by decide) rfl (fun ls hl => ?_)
    refine lv_iload_n hx hb dX2_wouldLeave_34 rfl (lv_at hl 0 rfl) ?_
    refine lv_iload_n hx hb dX2_wouldLeave_35 rfl (lv_at hl 2 rfl) ?_
    refine lv_iadd hx hb dX2_wouldLeave_36 ?_
    refine lv_aload_n hx hb dX2_wouldLeave_37 rfl (lv_at hl 1 rfl) ?_
    refine m_get hx hb hts hi2 hown hK hP 0 (by decide) (List.mem_of_getElem? (i := 2) rfl) (v := .int (gI σ 3)) rfl dX2_wouldLeave_38 (fun _ h => h) ?_
    refine lv_icmp_gt (tgt := 46) hx hb dX2_wouldLeave_41 (by decide) (fun c_4 => ?_) (fun c_4 => ?_)
    · refine lv_aload_n hx hb dX2_wouldLeave_46 rfl (lv_at hl 1 rfl) ?_
      refine lv_iconst (v := 0) hx hb dX2_wouldLeave_47 (by decide) ?_
      refine x_calli (va_runV (As := [.int 0]) (rest := []) ⟨hx, hb, hml, hown, hts⟩ (k_X2_pinnedBytes l D bx ba cI cJ cZ H.size (uI σ 20 0) false) (cwV 1 hts gX2_wouldLeave_X2_pinnedBytes rfl rfl rfl (by decide +kernel) ⟨Nat.le_of_ble_eq_true rfl, Nat.le_of_ble_eq_true rfl⟩) (xPreV mE_ok hE hK hA hP hD hS (q0 := 0) (ci := 2) rfl rfl rfl) rfl rfl hl.1 rfl (lv_room (Nat.le_of_ble_eq_true rfl)) dX2_wouldLeave_48 ⟨Nat.le_of_ble_eq_true rfl, Nat.le_of_ble_eq_true rfl⟩) hD hS hA (fun r u H locs hp hP hD hS => ?_)
      obtain ⟨rfl, hu9⟩ := hp
      rw [hu9] at hP hD
      refine lv_iload_n hx hb dX2_wouldLeave_51 rfl (lv_at hl 2 rfl) ?_
      refine lv_iadd hx hb dX2_wouldLeave_52 ?_
      refine lv_aload_n hx hb dX2_wouldLeave_53 rfl (lv_at hl 1 rfl) ?_
      refine m_get hx hb hts hi2 hown hK hP 0 (by decide) (List.mem_of_getElem? (i := 2) rfl) (v := .int (gI σ 3)) rfl dX2_wouldLeave_54 (fun _ h => h) ?_
      refine x_icmp_le (tgt := 62) hx hb dX2_wouldLeave_57 (by decide) (fun c_5 => ?_) (fun c_5 => ?_)
      · refine lv_iconst (v := 0) hx hb dX2_wouldLeave_62 (by decide) ?_
        refine lv_istore_n (lv' := [(3, .int 0), (2, .int (used (uI σ 20 0))), (0, .ref bx), (1, .int t)]) hx hb dX2_wouldLeave_63 rfl hl (by decide) rfl (fun ls hl => ?_)
        rcases h with h | h | h | ⟨hR, hE9⟩
        · exact absurd (h.symm.trans c_1) (by decide)
        · exact absurd c_4 h
        · exact absurd h c_5
        have loop : ∀ (n i : Nat) (ls : Array Slot) (H : Heap) (locs : List Loc), i ≤ 32 → 32 - i < n → va_P D vwCl (mW bx ba cI cJ cZ (uI σ 20 0)) H → va_D A (mW bx ba cI cJ cZ (uI σ 20 0)) → va_S A s.heap H locs → lv_has ls 6 [(0, .ref bx), (1, .int t), (2, .int (mSubI (uI σ 20 0) i)), (3, .int (nI i))] → W p l e (headSpec wsX2_wouldLeave ({ frames := 3, cells := 0, slots := 0, locals := 160 } : Room)).room s m [.ref bx, .int t].toArray below meth c H locs 0 0 (MQ below (va_Qi (fun (r : Int32) (u : St) => r = (if inR t 1 1000 then (if gI σ 3 < used (uI σ 20 0) + t then (if gI σ 3 < mPin (uI σ 20 0) false + t then -1 else (mWl (uI σ 20 0) N).2) else 0) else 0) ∧ u = (if inR t 1 1000 then (uI σ 20 0) else uI σ 20 1)) (xB D (mT cI cJ cZ) (mW bx ba cI cJ cZ) A) A) [.ref bx, .int t].toArray s 0 0 A) (F0 m 64 ls []) := by
          intro n
          induction n with
          | zero =>
            intro i ls H locs h1 h2
            exact absurd h2 (by omega)
          | succ n ih =>
            intro i ls H locs hi hn hP hD hS hl
            refine lv_iload_n hx hb dX2_wouldLeave_64 rfl (lv_at hl 3 rfl) ?_
            refine lv_bipush (v := 32) hx hb dX2_wouldLeave_65 (by decide) ?_
            refine x_icmp_ge (tgt := 97) hx hb dX2_wouldLeave_67 (by decide) (fun c_6 => ?_) (fun c_6 => ?_)
            · have hi9 : i = 32 := by
                rcases Nat.lt_or_ge i 32 with q | q
                · exact absurd ((nI_lt32 hi).mpr q) c_6
                · omega
              subst hi9
              refine lv_iconst (v := 0) hx hb dX2_wouldLeave_97 (by decide) ?_
              refine lv_istore_n (lv' := [(3, .int 0), (0, .ref bx), (1, .int t), (2, .int (mSubI (uI σ 20 0) 32))]) hx hb dX2_wouldLeave_98 rfl hl (by decide) rfl (fun ls hl => ?_)
              refine lv_iconst (v := 0) hx hb dX2_wouldLeave_99 (by decide) ?_
              refine lv_istore (lv' := [(4, .int 0), (3, .int 0), (0, .ref bx), (1, .int t), (2, .int (mSubI (uI σ 20 0) 32))]) hx hb dX2_wouldLeave_100 hl (by decide) rfl (fun ls hl => ?_)
              have loop2 : ∀ (n j : Nat) (ls : Array Slot) (H : Heap) (locs : List Loc), j ≤ N → N - j < n → va_P D vwCl (mW bx ba cI cJ cZ (uI σ 20 0)) H → va_D A (mW bx ba cI cJ cZ (uI σ 20 0)) → va_S A s.heap H locs → lv_has ls 6 [(0, .ref bx), (1, .int t), (2, .int ((mWl (uI σ 20 0) j).1)), (3, .int ((mWl (uI σ 20 0) j).2)), (4, .int (nI j))] → W p l e (headSpec wsX2_wouldLeave ({ frames := 3, cells := 0, slots := 0, locals := 160 } : Room)).room s m [.ref bx, .int t].toArray below meth c H locs 0 0 (MQ below (va_Qi (fun (r : Int32) (u : St) => r = (if inR t 1 1000 then (if gI σ 3 < used (uI σ 20 0) + t then (if gI σ 3 < mPin (uI σ 20 0) false + t then -1 else (mWl (uI σ 20 0) N).2) else 0) else 0) ∧ u = (if inR t 1 1000 then (uI σ 20 0) else uI σ 20 1)) (xB D (mT cI cJ cZ) (mW bx ba cI cJ cZ) A) A) [.ref bx, .int t].toArray s 0 0 A) (F0 m 102 ls []) := by
                intro n
                induction n with
                | zero =>
                  intro j ls H locs h1 h2
                  exact absurd h2 (by omega)
                | succ n ih2 =>
                  intro j ls H locs hj hn hP hD hS hl
                  refine lv_iload_n hx hb dX2_wouldLeave_102 rfl (lv_at hl 2 rfl) ?_
                  refine lv_iload_n hx hb dX2_wouldLeave_103 rfl (lv_at hl 1 rfl) ?_
                  refine lv_iadd hx hb dX2_wouldLeave_104 ?_
                  refine lv_aload_n hx hb dX2_wouldLeave_105 rfl (lv_at hl 0 rfl) ?_
                  refine m_get hx hb hts hi2 hown hK hP 0 (by decide) (List.mem_of_getElem? (i := 2) rfl) (v := .int (gI σ 3)) rfl dX2_wouldLeave_106 (fun _ h => h) ?_
                  refine x_icmp_le (tgt := 166) hx hb dX2_wouldLeave_109 (by decide) (fun c_7 => ?_) (fun c_7 => ?_)
                  · have hjN : j = N := by
                      rcases Nat.lt_or_ge j N with q | q
                      · exact absurd (hR j q).1 c_7
                      · omega
                    subst hjN
                    refine lv_iload_n hx hb dX2_wouldLeave_166 rfl (lv_at hl 3 rfl) ?_
                    exact x_iret hx hb hr hlocks hK (uI σ 20 0) hP hD hS ⟨by simp [c_1, c_4, c_5], by simp [c_1, c_4, c_5]⟩ dX2_wouldLeave_167
                  · have hlt : j < N := by
                      rcases Nat.lt_or_ge j N with q | q
                      · exact q
                      · have hjN : j = N := by omega
                        subst hjN
                        exact absurd c_7 hE9
                    obtain ⟨-, k, hk, hat⟩ := hR j hlt
                    refine lv_aload_n hx hb dX2_wouldLeave_112 rfl (lv_at hl 0 rfl) ?_
                    refine lv_iload hx hb dX2_wouldLeave_113 (lv_at hl 4 rfl) ?_
                    refine x_calli (va_runV (As := [.int (nI j)]) (rest := []) ⟨hx, hb, hml, hown, hts⟩ (k_X2_at l D bx ba cI cJ cZ H.size (uI σ 20 0) (nI j)) (cwV 1 hts gX2_wouldLeave_X2_at rfl rfl rfl (by decide +kernel) ⟨Nat.le_of_ble_eq_true rfl, Nat.le_of_ble_eq_true rfl⟩) (xPreV mE_ok hE hK hA hP hD hS (q0 := 0) (ci := 2) rfl rfl rfl) rfl rfl hl.1 rfl (lv_room (Nat.le_of_ble_eq_true rfl)) dX2_wouldLeave_115 ⟨Nat.le_of_ble_eq_true rfl, Nat.le_of_ble_eq_true rfl⟩) hD hS hA (fun r u H locs hp hP hD hS => ?_)
                    obtain ⟨rfl, hu9⟩ := hp
                    rw [hu9] at hP hD
                    rw [hat]
                    refine W.eq (g2 := F0 m 118 ls [.int (nI k)]) rfl ?_
                    refine lv_istore (lv' := [(5, .int (nI k)), (0, .ref bx), (1, .int t), (2, .int ((mWl (uI σ 20 0) j).1)), (3, .int ((mWl (uI σ 20 0) j).2)), (4, .int (nI j))]) hx hb dX2_wouldLeave_118 hl (by decide) rfl (fun ls hl => ?_)
                    refine lv_iload_n hx hb dX2_wouldLeave_120 rfl (lv_at hl 4 rfl) ?_
                    refine lv_aload_n hx hb dX2_wouldLeave_121 rfl (lv_at hl 1 rfl) ?_
                    refine lv_iload hx hb dX2_wouldLeave_122 (lv_at hl 0 rfl) ?_
                    refine x_calli (va_runV (As := [.int (nI k)]) (rest := [.int ((mWl (uI σ 20 0) j).2)]) ⟨hx, hb, hml, hown, hts⟩ (k_X2_over l D bx ba cI cJ cZ H.size (uI σ 20 0) hk) (cwV 1 hts gX2_wouldLeave_X2_over rfl rfl rfl (by decide +kernel) ⟨Nat.le_of_ble_eq_true rfl, Nat.le_of_ble_eq_true rfl⟩) (xPreV mE_ok hE hK hA hP hD hS (q0 := 0) (ci := 2) rfl rfl rfl) rfl rfl hl.1 rfl (lv_room (Nat.le_of_ble_eq_true rfl)) dX2_wouldLeave_124 ⟨Nat.le_of_ble_eq_true rfl, Nat.le_of_ble_eq_true rfl⟩) hD hS hA (fun r u H locs hp hP hD hS => ?_)
                    obtain ⟨rfl, hu9⟩ := hp
                    rw [hu9] at hP hD
                    refine x_ifeq (tgt := 134) hx hb dX2_wouldLeave_127 (by decide) (fun c_8 => ?_) (fun c_8 => ?_)
                    · refine lv_iconst (v := 1) hx hb dX2_wouldLeave_134 (by decide) ?_
                      refine lv_iadd hx hb dX2_wouldLeave_135 ?_
                      refine lv_istore_n (lv' := [(3, .int (((mWl (uI σ 20 0) j).2) + 1)), (5, .int (nI k)), (0, .ref bx), (1, .int t), (2, .int ((mWl (uI σ 20 0) j).1)), (4, .int (nI j))]) hx hb dX2_wouldLeave_136 rfl hl (by decide) rfl (fun ls hl => ?_)
                      refine lv_iload_n hx hb dX2_wouldLeave_137 rfl (lv_at hl 4 rfl) ?_
                      refine lv_aload_n hx hb dX2_wouldLeave_138 rfl (lv_at hl 2 rfl) ?_
                      refine lv_iload hx hb dX2_wouldLeave_139 (lv_at hl 1 rfl) ?_
                      refine x_calli (va_runV (As := [.int (nI k)]) (rest := [.int ((mWl (uI σ 20 0) j).1)]) ⟨hx, hb, hml, hown, hts⟩ (k_X2_over l D bx ba cI cJ cZ H.size (uI σ 20 0) hk) (cwV 1 hts gX2_wouldLeave_X2_over rfl rfl rfl (by decide +kernel) ⟨Nat.le_of_ble_eq_true rfl, Nat.le_of_ble_eq_true rfl⟩) (xPreV mE_ok hE hK hA hP hD hS (q0 := 0) (ci := 2) rfl rfl rfl) rfl rfl hl.1 rfl (lv_room (Nat.le_of_ble_eq_true rfl)) dX2_wouldLeave_141 ⟨Nat.le_of_ble_eq_true rfl, Nat.le_of_ble_eq_true rfl⟩) hD hS hA (fun r u H locs hp hP hD hS => ?_)
                      obtain ⟨rfl, hu9⟩ := hp
                      rw [hu9] at hP hD
                      refine x_ifeq (tgt := 151) hx hb dX2_wouldLeave_144 (by decide) (fun c_9 => ?_) (fun c_9 => ?_)
                      · refine lv_aload_n hx hb dX2_wouldLeave_151 rfl (lv_at hl 2 rfl) ?_
                        refine m_get hx hb hts hi2 hown hK hP 7 (by decide) (List.mem_of_getElem? (i := 3) rfl) (v := .ref (ba 2)) rfl dX2_wouldLeave_152 (fun _ h => h) ?_
                        refine lv_iload hx hb dX2_wouldLeave_155 (lv_at hl 1 rfl) ?_
                        refine m_ld2 hx hb hK hP hk dX2_wouldLeave_157 ?_
                        refine W.eq (g2 := F0 m 158 ls [.int (gS σ 3 k), .int ((mWl (uI σ 20 0) j).1)]) rfl ?_
                        refine lv_isub hx hb dX2_wouldLeave_158 ?_
                        refine lv_istore_n (lv' := [(2, .int (((mWl (uI σ 20 0) j).1) - (gS σ 3 k))), (3, .int (((mWl (uI σ 20 0) j).2) + 1)), (5, .int (nI k)), (0, .ref bx), (1, .int t), (4, .int (nI j))]) hx hb dX2_wouldLeave_159 rfl hl (by decide) rfl (fun ls hl => ?_)
                        refine lv_iinc (v := (nI j) + 1) (lv' := [(4, .int ((nI j) + 1)), (2, .int (((mWl (uI σ 20 0) j).1) - (gS σ 3 k))), (3, .int (((mWl (uI σ 20 0) j).2) + 1)), (5, .int (nI k)), (0, .ref bx), (1, .int t)]) hx hb dX2_wouldLeave_160 hl (k := 5) rfl rfl (by decide) rfl (fun ls hl => ?_)
                        refine lv_goto (tgt := 102) hx hb dX2_wouldLeave_163 (by decide) ?_
                        have e9 : mWl (uI σ 20 0) (j + 1) = (((mWl (uI σ 20 0) j).1) - (gS σ 3 k), ((mWl (uI σ 20 0) j).2) + 1) := by
                          first | (rw [mWl_s, hat]; simp [mStep, c_8] <;> rfl) | exact absurd (c_8.symm.trans c_9) (by decide)
                        exact ih2 (j + 1) ls H locs hlt (by omega) hP hD hS (by rw [nI_succ, e9]; exact lv_sub hl [4, 5, 1, 2, 0] rfl)
                      · refine lv_iconst (v := 0) hx hb dX2_wouldLeave_147 (by decide) ?_
                        refine lv_goto (tgt := 158) hx hb dX2_wouldLeave_148 (by decide) ?_
                        refine lv_isub hx hb dX2_wouldLeave_158 ?_
                        refine lv_istore_n (lv' := [(2, .int (((mWl (uI σ 20 0) j).1) - 0)), (3, .int (((mWl (uI σ 20 0) j).2) + 1)), (5, .int (nI k)), (0, .ref bx), (1, .int t), (4, .int (nI j))]) hx hb dX2_wouldLeave_159 rfl hl (by decide) rfl (fun ls hl => ?_)
                        refine lv_iinc (v := (nI j) + 1) (lv' := [(4, .int ((nI j) + 1)), (2, .int (((mWl (uI σ 20 0) j).1) - 0)), (3, .int (((mWl (uI σ 20 0) j).2) + 1)), (5, .int (nI k)), (0, .ref bx), (1, .int t)]) hx hb dX2_wouldLeave_160 hl (k := 5) rfl rfl (by decide) rfl (fun ls hl => ?_)
                        refine lv_goto (tgt := 102) hx hb dX2_wouldLeave_163 (by decide) ?_
                        have e9 : mWl (uI σ 20 0) (j + 1) = (((mWl (uI σ 20 0) j).1) - 0, ((mWl (uI σ 20 0) j).2) + 1) := by
                          first | (rw [mWl_s, hat]; simp [mStep, c_8] <;> rfl) | exact absurd (c_8.symm.trans c_9) (by decide)
                        exact ih2 (j + 1) ls H locs hlt (by omega) hP hD hS (by rw [nI_succ, e9]; exact lv_sub hl [4, 5, 1, 2, 0] rfl)
                    · refine lv_iconst (v := 0) hx hb dX2_wouldLeave_130 (by decide) ?_
                      refine lv_goto (tgt := 135) hx hb dX2_wouldLeave_131 (by decide) ?_
                      refine lv_iadd hx hb dX2_wouldLeave_135 ?_
                      refine lv_istore_n (lv' := [(3, .int (((mWl (uI σ 20 0) j).2) + 0)), (5, .int (nI k)), (0, .ref bx), (1, .int t), (2, .int ((mWl (uI σ 20 0) j).1)), (4, .int (nI j))]) hx hb dX2_wouldLeave_136 rfl hl (by decide) rfl (fun ls hl => ?_)
                      refine lv_iload_n hx hb dX2_wouldLeave_137 rfl (lv_at hl 4 rfl) ?_
                      refine lv_aload_n hx hb dX2_wouldLeave_138 rfl (lv_at hl 2 rfl) ?_
                      refine lv_iload hx hb dX2_wouldLeave_139 (lv_at hl 1 rfl) ?_
                      refine x_calli (va_runV (As := [.int (nI k)]) (rest := [.int ((mWl (uI σ 20 0) j).1)]) ⟨hx, hb, hml, hown, hts⟩ (k_X2_over l D bx ba cI cJ cZ H.size (uI σ 20 0) hk) (cwV 1 hts gX2_wouldLeave_X2_over rfl rfl rfl (by decide +kernel) ⟨Nat.le_of_ble_eq_true rfl, Nat.le_of_ble_eq_true rfl⟩) (xPreV mE_ok hE hK hA hP hD hS (q0 := 0) (ci := 2) rfl rfl rfl) rfl rfl hl.1 rfl (lv_room (Nat.le_of_ble_eq_true rfl)) dX2_wouldLeave_141 ⟨Nat.le_of_ble_eq_true rfl, Nat.le_of_ble_eq_true rfl⟩) hD hS hA (fun r u H locs hp hP hD hS => ?_)
                      obtain ⟨rfl, hu9⟩ := hp
                      rw [hu9] at hP hD
                      refine x_ifeq (tgt := 151) hx hb dX2_wouldLeave_144 (by decide) (fun c_10 => ?_) (fun c_10 => ?_)
                      · refine lv_aload_n hx hb dX2_wouldLeave_151 rfl (lv_at hl 2 rfl) ?_
                        refine m_get hx hb hts hi2 hown hK hP 7 (by decide) (List.mem_of_getElem? (i := 3) rfl) (v := .ref (ba 2)) rfl dX2_wouldLeave_152 (fun _ h => h) ?_
                        refine lv_iload hx hb dX2_wouldLeave_155 (lv_at hl 1 rfl) ?_
                        refine m_ld2 hx hb hK hP hk dX2_wouldLeave_157 ?_
                        refine W.eq (g2 := F0 m 158 ls [.int (gS σ 3 k), .int ((mWl (uI σ 20 0) j).1)]) rfl ?_
                        refine lv_isub hx hb dX2_wouldLeave_158 ?_
                        refine lv_istore_n (lv' := [(2, .int (((mWl (uI σ 20 0) j).1) - (gS σ 3 k))), (3, .int (((mWl (uI σ 20 0) j).2) + 0)), (5, .int (nI k)), (0, .ref bx), (1, .int t), (4, .int (nI j))]) hx hb dX2_wouldLeave_159 rfl hl (by decide) rfl (fun ls hl => ?_)
                        refine lv_iinc (v := (nI j) + 1) (lv' := [(4, .int ((nI j) + 1)), (2, .int (((mWl (uI σ 20 0) j).1) - (gS σ 3 k))), (3, .int (((mWl (uI σ 20 0) j).2) + 0)), (5, .int (nI k)), (0, .ref bx), (1, .int t)]) hx hb dX2_wouldLeave_160 hl (k := 5) rfl rfl (by decide) rfl (fun ls hl => ?_)
                        refine lv_goto (tgt := 102) hx hb dX2_wouldLeave_163 (by decide) ?_
                        have e9 : mWl (uI σ 20 0) (j + 1) = (((mWl (uI σ 20 0) j).1) - (gS σ 3 k), ((mWl (uI σ 20 0) j).2) + 0) := by
                          first | (rw [mWl_s, hat]; simp [mStep, c_8] <;> rfl) | exact absurd (c_8.symm.trans c_10) (by decide)
                        exact ih2 (j + 1) ls H locs hlt (by omega) hP hD hS (by rw [nI_succ, e9]; exact lv_sub hl [4, 5, 1, 2, 0] rfl)
                      · refine lv_iconst (v := 0) hx hb dX2_wouldLeave_147 (by decide) ?_
                        refine lv_goto (tgt := 158) hx hb dX2_wouldLeave_148 (by decide) ?_
                        refine lv_isub hx hb dX2_wouldLeave_158 ?_
                        refine lv_istore_n (lv' := [(2, .int (((mWl (uI σ 20 0) j).1) - 0)), (3, .int (((mWl (uI σ 20 0) j).2) + 0)), (5, .int (nI k)), (0, .ref bx), (1, .int t), (4, .int (nI j))]) hx hb dX2_wouldLeave_159 rfl hl (by decide) rfl (fun ls hl => ?_)
                        refine lv_iinc (v := (nI j) + 1) (lv' := [(4, .int ((nI j) + 1)), (2, .int (((mWl (uI σ 20 0) j).1) - 0)), (3, .int (((mWl (uI σ 20 0) j).2) + 0)), (5, .int (nI k)), (0, .ref bx), (1, .int t)]) hx hb dX2_wouldLeave_160 hl (k := 5) rfl rfl (by decide) rfl (fun ls hl => ?_)
                        refine lv_goto (tgt := 102) hx hb dX2_wouldLeave_163 (by decide) ?_
                        have e9 : mWl (uI σ 20 0) (j + 1) = (((mWl (uI σ 20 0) j).1) - 0, ((mWl (uI σ 20 0) j).2) + 0) := by
                          first | (rw [mWl_s, hat]; simp [mStep, c_8] <;> rfl) | exact absurd (c_8.symm.trans c_10) (by decide)
                        exact ih2 (j + 1) ls H locs hlt (by omega) hP hD hS (by rw [nI_succ, e9]; exact lv_sub hl [4, 5, 1, 2, 0] rfl)
              exact loop2 (N + 1) 0 _ _ _ (Nat.zero_le _) (by omega) hP hD hS (lv_sub hl [2, 3, 4, 1, 0] rfl)
            · have hlt : i < 32 := (nI_lt32 hi).mp c_6
              refine lv_iload_n hx hb dX2_wouldLeave_70 rfl (lv_at hl 2 rfl) ?_
              refine lv_aload_n hx hb dX2_wouldLeave_71 rfl (lv_at hl 0 rfl) ?_
              refine lv_iload_n hx hb dX2_wouldLeave_72 rfl (lv_at hl 3 rfl) ?_
              refine x_calli (va_runV (As := [.int (nI i)]) (rest := [.int (mSubI (uI σ 20 0) i)]) ⟨hx, hb, hml, hown, hts⟩ (k_X2_over l D bx ba cI cJ cZ H.size (uI σ 20 0) hlt) (cwV 1 hts gX2_wouldLeave_X2_over rfl rfl rfl (by decide +kernel) ⟨Nat.le_of_ble_eq_true rfl, Nat.le_of_ble_eq_true rfl⟩) (xPreV mE_ok hE hK hA hP hD hS (q0 := 0) (ci := 2) rfl rfl rfl) rfl rfl hl.1 rfl (lv_room (Nat.le_of_ble_eq_true rfl)) dX2_wouldLeave_73 ⟨Nat.le_of_ble_eq_true rfl, Nat.le_of_ble_eq_true rfl⟩) hD hS hA (fun r u H locs hp hP hD hS => ?_)
              obtain ⟨rfl, hu9⟩ := hp
              rw [hu9] at hP hD
              refine x_ifeq (tgt := 88) hx hb dX2_wouldLeave_76 (by decide) (fun c_11 => ?_) (fun c_11 => ?_)
              · refine lv_iconst (v := 0) hx hb dX2_wouldLeave_88 (by decide) ?_
                refine lv_isub hx hb dX2_wouldLeave_89 ?_
                refine lv_istore_n (lv' := [(2, .int ((mSubI (uI σ 20 0) i) - 0)), (0, .ref bx), (1, .int t), (3, .int (nI i))]) hx hb dX2_wouldLeave_90 rfl hl (by decide) rfl (fun ls hl => ?_)
                refine lv_iinc (v := (nI i) + 1) (lv' := [(3, .int ((nI i) + 1)), (2, .int ((mSubI (uI σ 20 0) i) - 0)), (0, .ref bx), (1, .int t)]) hx hb dX2_wouldLeave_91 hl (k := 3) rfl rfl (by decide) rfl (fun ls hl => ?_)
                refine lv_goto (tgt := 64) hx hb dX2_wouldLeave_94 (by decide) ?_
                have e9_0 : mSubI (uI σ 20 0) (i + 1) = (mSubI (uI σ 20 0) i) - 0 := by rw [mSubI_s, c_11]; rfl
                exact ih (i + 1) ls H locs (by omega) (by omega) hP hD hS (by rw [e9_0, nI_succ]; exact lv_sub hl [2, 3, 1, 0] rfl)
              · refine lv_aload_n hx hb dX2_wouldLeave_79 rfl (lv_at hl 0 rfl) ?_
                refine m_get hx hb hts hi2 hown hK hP 7 (by decide) (List.mem_of_getElem? (i := 3) rfl) (v := .ref (ba 2)) rfl dX2_wouldLeave_80 (fun _ h => h) ?_
                refine lv_iload_n hx hb dX2_wouldLeave_83 rfl (lv_at hl 3 rfl) ?_
                refine m_ld2 hx hb hK hP hlt dX2_wouldLeave_84 ?_
                refine W.eq (g2 := F0 m 85 ls [.int (gS σ 3 i), .int (mSubI (uI σ 20 0) i)]) rfl ?_
                refine lv_goto (tgt := 89) hx hb dX2_wouldLeave_85 (by decide) ?_
                refine lv_isub hx hb dX2_wouldLeave_89 ?_
                refine lv_istore_n (lv' := [(2, .int ((mSubI (uI σ 20 0) i) - (gS σ 3 i))), (0, .ref bx), (1, .int t), (3, .int (nI i))]) hx hb dX2_wouldLeave_90 rfl hl (by decide) rfl (fun ls hl => ?_)
                refine lv_iinc (v := (nI i) + 1) (lv' := [(3, .int ((nI i) + 1)), (2, .int ((mSubI (uI σ 20 0) i) - (gS σ 3 i))), (0, .ref bx), (1, .int t)]) hx hb dX2_wouldLeave_91 hl (k := 3) rfl rfl (by decide) rfl (fun ls hl => ?_)
                refine lv_goto (tgt := 64) hx hb dX2_wouldLeave_94 (by decide) ?_
                have e9_0 : mSubI (uI σ 20 0) (i + 1) = (mSubI (uI σ 20 0) i) - (gS σ 3 i) := by rw [mSubI_s, c_11]; rfl
                exact ih (i + 1) ls H locs (by omega) (by omega) hP hD hS (by rw [e9_0, nI_succ]; exact lv_sub hl [2, 3, 1, 0] rfl)
        exact loop 33 0 _ _ _ (Nat.zero_le _) (by decide) hP hD hS (lv_sub hl [2, 3, 1, 0] rfl)
      · refine lv_iconst (v := (-1)) hx hb dX2_wouldLeave_60 (by decide) ?_
        exact x_iret hx hb hr hlocks hK (uI σ 20 0) hP hD hS ⟨by simp [c_1, c_4, c_5], by simp [c_1, c_4, c_5]⟩ dX2_wouldLeave_61
    · refine lv_iconst (v := 0) hx hb dX2_wouldLeave_44 (by decide) ?_
      exact x_iret hx hb hr hlocks hK (uI σ 20 0) hP hD hS ⟨by simp [c_1, c_4], by simp [c_1, c_4]⟩ dX2_wouldLeave_45
