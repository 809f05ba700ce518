set_option maxHeartbeats 4000000 in
set_option maxRecDepth 100000 in
theorem k_X2_removeOver (l : Launch) (D : va_G) (bx : Nat) (ba : Nat → Nat) (cI cJ cZ : ClassId) (sz : Nat) (σ : St) : Met l yX2_removeOver wsX2_removeOver ({ frames := 1, cells := 0, slots := 0, locals := 40 } : Room) (va_Pc [.ref bx] (xPre D (mT cI cJ cZ) mE (mW bx ba cI cJ cZ) σ sz)) (va_Qi (fun (r : Int32) (u : St) => r = rmC σ 32 ∧ u = rmO σ) (xB D (mT cI cJ cZ) (mW bx ba cI cJ cZ) (va_A (mW bx ba cI cJ cZ σ) sz)) (va_A (mW bx ba cI cJ cZ σ) sz)) 0 0 (va_A (mW bx ba cI cJ cZ σ) sz) := by
  refine xOpen (w := (mW bx ba cI cJ cZ)) (σ := σ) (cc := cX2_removeOver) (maxL := 3) (ret := some .int) (QQ := fun A => va_Qi (fun (r : Int32) (u : St) => r = rmC σ 32 ∧ u = rmO σ) (xB D (mT cI cJ cZ) (mW bx ba cI cJ cZ) A) A) (by decide) rfl (Nat.le_of_ble_eq_true rfl) ?_
  intro p e s m below meth c A hx hb hr hml hown hts hlocks hname hK hE hA hP hD hS ls hl
  have hl : lv_has ls 3 [(0, .ref bx)] := hl
  have hown : s.vm.findClass RX2 = some m.cls := hown
  have hi2 : ∀ w ∈ wsX20, w ∈ wsX2_removeOver := (fun _ h => List.mem_cons_of_mem _ (List.mem_append_right _ h))
  generalize hH : s.heap = H at hP
  have hS : va_S A s.heap H [] := by rw [← hH]; exact va_S.rf
  generalize hlo : ([] : List Loc) = locs at hS
  refine lv_iconst (v := 0) hx hb dX2_removeOver_0 (by decide) ?_
  refine lv_istore_n (lv' := [(1, .int 0), (0, .ref bx)]) hx hb dX2_removeOver_1 rfl hl (by decide) rfl (fun ls hl => ?_)
  refine lv_iconst (v := 0) hx hb dX2_removeOver_2 (by decide) ?_
  refine lv_istore_n (lv' := [(2, .int 0), (1, .int 0), (0, .ref bx)]) hx hb dX2_removeOver_3 rfl hl (by decide) rfl (fun ls hl => ?_)
  have loop : ∀ (n i : Nat) (ls : Array Slot) (H : Heap) (locs : List Loc), i ≤ 32 → 32 - i < n → va_P D vwCl (mW bx ba cI cJ cZ (rmS σ i)) H → va_D A (mW bx ba cI cJ cZ (rmS σ i)) → va_S A s.heap H locs → lv_has ls 3 [(0, .ref bx), (1, .int (rmC σ i)), (2, .int (nI i))] → W p l e (headSpec wsX2_removeOver ({ frames := 1, cells := 0, slots := 0, locals := 40 } : Room)).room s m [.ref bx].toArray below meth c H locs 0 0 (MQ below (va_Qi (fun (r : Int32) (u : St) => r = rmC σ 32 ∧ u = rmO σ) (xB D (mT cI cJ cZ) (mW bx ba cI cJ cZ) A) A) [.ref bx].toArray s 0 0 A) (F0 m 4 ls []) := by
    intro n
    induction n with
    | zero =>
      intro i ls H locs h1 h2
      exact absurd h2 (by omega)
    | succ n ih =>
      intro i ls H locs hi hn hP hD hS hl
      refine lv_iload_n hx hb dX2_removeOver_4 rfl (lv_at hl 2 rfl) ?_
      refine lv_bipush (v := 32) hx hb dX2_removeOver_5 (by decide) ?_
      refine x_icmp_ge (tgt := 34) hx hb dX2_removeOver_7 (by decide) (fun c_1 => ?_) (fun c_1 => ?_)
      · have hi9 : i = 32 := by
          rcases Nat.lt_or_ge i 32 with q | q
          · exact absurd ((nI_lt32 hi).mpr q) c_1
          · omega
        subst hi9
        refine lv_aload_n hx hb dX2_removeOver_34 rfl (lv_at hl 0 rfl) ?_
        refine lv_dup hx hb dX2_removeOver_35 rfl ?_
        refine m_get hx hb hts hi2 hown hK hP 20 (by decide) (List.mem_of_getElem? (i := 2) rfl) (v := .int (gI (rmS σ 32) 12)) rfl dX2_removeOver_36 (fun _ h => h) ?_
        refine lv_iload_n hx hb dX2_removeOver_39 rfl (lv_at hl 1 rfl) ?_
        refine lv_iadd hx hb dX2_removeOver_40 ?_
        refine m_put hx hb hts hi2 hown hK hP hD hS 20 (by decide) (List.mem_of_getElem? (i := 2) rfl) (v := .int ((gI (rmS σ 32) 12) + (rmC σ 32))) (ty := .int) (uI (rmS σ 32) 12 ((gI (rmS σ 32) 12) + (rmC σ 32))) (mF_20 bx ba cI cJ cZ _ _) rfl (by decide +kernel) rfl rfl dX2_removeOver_41 (fun _ h => h) (fun H locs hP hD hS => ?_)
        refine lv_iload_n hx hb dX2_removeOver_44 rfl (lv_at hl 1 rfl) ?_
        exact x_iret hx hb hr hlocks hK (uI (rmS σ 32) 12 ((gI (rmS σ 32) 12) + (rmC σ 32))) hP hD hS ⟨rfl, rfl⟩ dX2_removeOver_45
      · have hlt : i < 32 := (nI_lt32 hi).mp c_1
        refine lv_aload_n hx hb dX2_removeOver_10 rfl (lv_at hl 0 rfl) ?_
        refine lv_iload_n hx hb dX2_removeOver_11 rfl (lv_at hl 2 rfl) ?_
        refine x_calli (va_runV (As := [.int (nI i)]) (rest := []) ⟨hx, hb, hml, hown, hts⟩ (k_X2_over l D bx ba cI cJ cZ H.size (rmS σ i) hlt) (cwV 1 hts gX2_removeOver_X2_over rfl rfl rfl (by decide +kernel) ⟨Nat.le_of_ble_eq_true rfl, Nat.le_of_ble_eq_true rfl⟩) (xPreV mE_ok hE hK hA hP hD hS (q0 := 0) (ci := 2) rfl rfl rfl) rfl rfl hl.1 rfl (lv_room (Nat.le_of_ble_eq_true rfl)) dX2_removeOver_12 ⟨Nat.le_of_ble_eq_true rfl, Nat.le_of_ble_eq_true rfl⟩) hD hS hA (fun r u H locs hp hP hD hS => ?_)
        obtain ⟨rfl, hu9⟩ := hp
        rw [hu9] at hP hD
        refine x_ifeq (tgt := 28) hx hb dX2_removeOver_15 (by decide) (fun c_2 => ?_) (fun c_2 => ?_)
        · refine lv_iinc (v := (nI i) + 1) (lv' := [(2, .int ((nI i) + 1)), (0, .ref bx), (1, .int (rmC σ i))]) hx hb dX2_removeOver_28 hl (k := 2) rfl rfl (by decide) rfl (fun ls hl => ?_)
          refine lv_goto (tgt := 4) hx hb dX2_removeOver_31 (by decide) ?_
          have e9_0 : rmS σ (i + 1) = rmS σ i := by rw [rmS_s, show (gB (rmS σ i) 1 i && ended (rmS σ i) i) = ovr (rmS σ i) i from rfl, c_2]; rfl
          have e9_1 : rmC σ (i + 1) = rmC σ i := by rw [rmC_s, show (gB (rmS σ i) 1 i && ended (rmS σ i) i) = ovr (rmS σ i) i from rfl, c_2]; rfl
          exact ih (i + 1) ls H locs (by omega) (by omega) (by rw [e9_0]; exact hP) (by rw [e9_0]; exact hD) hS (by rw [e9_1, nI_succ]; exact lv_sub hl [1, 2, 0] rfl)
        · refine lv_aload_n hx hb dX2_removeOver_18 rfl (lv_at hl 0 rfl) ?_
          refine m_get hx hb hts hi2 hown hK hP 5 (by decide) (List.mem_of_getElem? (i := 1) rfl) (v := .ref (ba 0)) rfl dX2_removeOver_19 (fun _ h => h) ?_
          refine lv_iload_n hx hb dX2_removeOver_22 rfl (lv_at hl 2 rfl) ?_
          refine lv_iconst (v := 0) hx hb dX2_removeOver_23 (by decide) ?_
          refine m_st0 (v := false) hx hb hK hP hD hS hlt dX2_removeOver_24 (fun H locs hP hD hS => ?_)
          refine lv_iinc (v := (rmC σ i) + 1) (lv' := [(1, .int ((rmC σ i) + 1)), (0, .ref bx), (2, .int (nI i))]) hx hb dX2_removeOver_25 hl (k := 1) rfl rfl (by decide) rfl (fun ls hl => ?_)
          refine lv_iinc (v := (nI i) + 1) (lv' := [(2, .int ((nI i) + 1)), (1, .int ((rmC σ i) + 1)), (0, .ref bx)]) hx hb dX2_removeOver_28 hl (k := 2) rfl rfl (by decide) rfl (fun ls hl => ?_)
          refine lv_goto (tgt := 4) hx hb dX2_removeOver_31 (by decide) ?_
          have e9_0 : rmS σ (i + 1) = uB (rmS σ i) 1 i false := by rw [rmS_s, show (gB (rmS σ i) 1 i && ended (rmS σ i) i) = ovr (rmS σ i) i from rfl, c_2]; rfl
          have e9_1 : rmC σ (i + 1) = (rmC σ i) + 1 := by rw [rmC_s, show (gB (rmS σ i) 1 i && ended (rmS σ i) i) = ovr (rmS σ i) i from rfl, c_2]; rfl
          exact ih (i + 1) ls H locs (by omega) (by omega) (by rw [e9_0]; exact hP) (by rw [e9_0]; exact hD) hS (by rw [e9_1, nI_succ]; exact lv_sub hl [2, 1, 0] rfl)
  exact loop 33 0 _ _ _ (Nat.zero_le _) (by decide) hP hD hS (lv_sub hl [2, 1, 0] rfl)
set_option maxHeartbeats 4000000 in
set_option maxRecDepth 100000 in
theorem k_X2_setWorth (l : Launch) (D : va_G) (bx : Nat) (ba : Nat → Nat) (cI cJ cZ : ClassId) (sz : Nat) (σ : St) {k : Nat} (hk : k < 32) (hz : ¬ gS σ 3 k = 0) : Met l yX2_setWorth wsX2_setWorth ({ frames := 0, cells := 0, slots := 0, locals := 0 } : Room) (va_Pc [.ref bx, .int (nI k)] (xPre D (mT cI cJ cZ) mE (mW bx ba cI cJ cZ) σ sz)) (va_Qv (fun (u : St) => u = mSetW σ k) (xB D (mT cI cJ cZ) (mW bx ba cI cJ cZ) (va_A (mW bx ba cI cJ cZ σ) sz)) (va_A (mW bx ba cI cJ cZ σ) sz)) 0 0 (va_A (mW bx ba cI cJ cZ σ) sz) := by
  refine xOpen (w := (mW bx ba cI cJ cZ)) (σ := σ) (cc := cX2_setWorth) (maxL := 2) (ret := none) (QQ := fun A => va_Qv (fun (u : St) => u = mSetW σ k) (xB D (mT cI cJ cZ) (mW bx ba cI cJ cZ) A) A) (by decide) rfl (Nat.le_of_ble_eq_true rfl) ?_
  intro p e s m below meth c A hx hb hr hml hown hts hlocks hname hK hE hA hP hD hS ls hl
  have hl : lv_has ls 2 [(0, .ref bx), (1, .int (nI k))] := hl
  have hown : s.vm.findClass RX2 = some m.cls := hown
  have hi2 : ∀ w ∈ wsX20, w ∈ wsX2_setWorth := (fun _ h => List.mem_cons_of_mem _ (List.mem_append_right _ h))
  generalize hH : s.heap = H at hP
  have hS : va_S A s.heap H [] := by rw [← hH]; exact va_S.rf
  generalize hlo : ([] : List Loc) = locs at hS
  refine lv_aload_n hx hb dX2_setWorth_0 rfl (lv_at hl 0 rfl) ?_
  refine m_get hx hb hts hi2 hown hK hP 10 (by decide) (List.mem_of_getElem? (i := 1) rfl) (v := .ref (ba 5)) rfl dX2_setWorth_1 (fun _ h => h) ?_
  refine lv_iload_n hx hb dX2_setWorth_4 rfl (lv_at hl 1 rfl) ?_
  refine lv_aload_n hx hb dX2_setWorth_5 rfl (lv_at hl 0 rfl) ?_
  refine m_get hx hb hts hi2 hown hK hP 3 (by decide) (List.mem_of_getElem? (i := 2) rfl) (v := .long (gL σ 2)) rfl dX2_setWorth_6 (fun _ h => h) ?_
  refine lv_ldc2 (v := 1000) hx hb hown (hts _ (List.mem_of_getElem? (i := 3) rfl)) dX2_setWorth_9 ?_
  refine lv_aload_n hx hb dX2_setWorth_12 rfl (lv_at hl 0 rfl) ?_
  refine m_get hx hb hts hi2 hown hK hP 9 (by decide) (List.mem_of_getElem? (i := 4) rfl) (v := .ref (ba 4)) rfl dX2_setWorth_13 (fun _ h => h) ?_
  refine lv_iload_n hx hb dX2_setWorth_16 rfl (lv_at hl 1 rfl) ?_
  refine m_ld4 hx hb hK hP hk dX2_setWorth_17 ?_
  refine lv_i2l (v := (gS σ 4 k).toInt64) hx hb dX2_setWorth_18 rfl ?_
  refine lv_lmul hx hb dX2_setWorth_19 ?_
  refine lv_aload_n hx hb dX2_setWorth_20 rfl (lv_at hl 0 rfl) ?_
  refine m_get hx hb hts hi2 hown hK hP 8 (by decide) (List.mem_of_getElem? (i := 5) rfl) (v := .ref (ba 3)) rfl dX2_setWorth_21 (fun _ h => h) ?_
  refine lv_iload_n hx hb dX2_setWorth_24 rfl (lv_at hl 1 rfl) ?_
  refine m_ld3 hx hb hK hP hk dX2_setWorth_25 ?_
  refine lv_i2l (v := (gS σ 9 k).toInt64) hx hb dX2_setWorth_26 rfl ?_
  refine lv_lmul hx hb dX2_setWorth_27 ?_
  refine lv_aload_n hx hb dX2_setWorth_28 rfl (lv_at hl 0 rfl) ?_
  refine m_get hx hb hts hi2 hown hK hP 7 (by decide) (List.mem_of_getElem? (i := 6) rfl) (v := .ref (ba 2)) rfl dX2_setWorth_29 (fun _ h => h) ?_
  refine lv_iload_n hx hb dX2_setWorth_32 rfl (lv_at hl 1 rfl) ?_
  refine m_ld2 hx hb hK hP hk dX2_setWorth_33 ?_
  refine lv_i2l (v := (gS σ 3 k).toInt64) hx hb dX2_setWorth_34 rfl ?_
  refine lv_ldiv hx hb dX2_setWorth_35 ((fun q => hz (toI64_0 q))) ?_
  refine lv_ladd hx hb dX2_setWorth_36 ?_
  refine m_st5 (v := ((gL σ 2) + (((1000 * ((gS σ 4 k).toInt64)) * ((gS σ 9 k).toInt64)) / ((gS σ 3 k).toInt64)))) hx hb hK hP hD hS hk dX2_setWorth_37 (fun H locs hP hD hS => ?_)
  refine lv_aload_n hx hb dX2_setWorth_38 rfl (lv_at hl 0 rfl) ?_
  refine lv_dup hx hb dX2_setWorth_39 rfl ?_
  refine m_get hx hb hts hi2 hown hK hP 4 (by decide) (List.mem_of_getElem? (i := 7) rfl) (v := .long (gL σ 5)) rfl dX2_setWorth_40 (fun _ h => h) ?_
  refine lv_lconst (v := 1) hx hb dX2_setWorth_43 (by decide) ?_
  refine lv_ladd hx hb dX2_setWorth_44 ?_
  refine m_put hx hb hts hi2 hown hK hP hD hS 4 (by decide) (List.mem_of_getElem? (i := 7) rfl) (v := .long ((gL σ 5) + 1)) (ty := .long) (uL (uT σ 6 k ((gL σ 2) + (((1000 * ((gS σ 4 k).toInt64)) * ((gS σ 9 k).toInt64)) / ((gS σ 3 k).toInt64)))) 5 ((gL σ 5) + 1)) (mF_4 bx ba cI cJ cZ _ _) rfl (by decide +kernel) rfl rfl dX2_setWorth_45 (fun _ h => h) (fun H locs hP hD hS => ?_)
  refine lv_aload_n hx hb dX2_setWorth_48 rfl (lv_at hl 0 rfl) ?_
  refine m_get hx hb hts hi2 hown hK hP 12 (by decide) (List.mem_of_getElem? (i := 8) rfl) (v := .ref (ba 7)) rfl dX2_setWorth_49 (fun _ h => h) ?_
  refine lv_iload_n hx hb dX2_setWorth_52 rfl (lv_at hl 1 rfl) ?_
  refine lv_aload_n hx hb dX2_setWorth_53 rfl (lv_at hl 0 rfl) ?_
  refine m_get hx hb hts hi2 hown hK hP 4 (by decide) (List.mem_of_getElem? (i := 7) rfl) (v := .long ((gL σ 5) + 1)) rfl dX2_setWorth_54 (fun _ h => h) ?_
  refine m_st7 (v := ((gL σ 5) + 1)) hx hb hK hP hD hS hk dX2_setWorth_57 (fun H locs hP hD hS => ?_)
  exact x_vret hx hb hr hlocks hK (uT (uL (uT σ 6 k ((gL σ 2) + (((1000 * ((gS σ 4 k).toInt64)) * ((gS σ 9 k).toInt64)) / ((gS σ 3 k).toInt64)))) 5 ((gL σ 5) + 1)) 7 k ((gL σ 5) + 1)) hP hD hS rfl dX2_setWorth_58
set_option maxHeartbeats 4000000 in
set_option maxRecDepth 100000 in
theorem k_X2_pinnedBytes (l : Launch) (D : va_G) (bx : Nat) (ba : Nat → Nat) (cI cJ cZ : ClassId) (sz : Nat) (σ : St) (b : Bool) : Met l yX2_pinnedBytes wsX2_pinnedBytes ({ frames := 1, cells := 0, slots := 0, locals := 40 } : Room) (va_Pc [.ref bx, .int (bI b)] (xPre D (mT cI cJ cZ) mE (mW bx ba cI cJ cZ) σ sz)) (va_Qi (fun (r : Int32) (u : St) => r = mPin σ b ∧ u = σ) (xB D (mT cI cJ cZ) (mW bx ba cI cJ cZ) (va_A (mW bx ba cI cJ cZ σ) sz)) (va_A (mW bx ba cI cJ cZ σ) sz)) 0 0 (va_A (mW bx ba cI cJ cZ σ) sz) := by
  refine xOpen (w := (mW bx ba cI cJ cZ)) (σ := σ) (cc := cX2_pinnedBytes) (maxL := 4) (ret := some .int) (QQ := fun A => va_Qi (fun (r : Int32) (u : St) => r = mPin σ b ∧ u = σ) (xB D (mT cI cJ cZ) (mW bx ba cI cJ cZ) A) A) (by decide) rfl (Nat.le_of_ble_eq_true rfl) ?_
  intro p e s m below meth c A hx hb hr hml hown hts hlocks hname hK hE hA hP hD hS ls hl
  have hl : lv_has ls 4 [(0, .ref bx), (1, .int (bI b))] := hl
  have hown : s.vm.findClass RX2 = some m.cls := hown
  have hi2 : ∀ w ∈ wsX20, w ∈ wsX2_pinnedBytes := (fun _ h => List.mem_cons_of_mem _ (List.mem_append_right _ h))
  generalize hH : s.heap = H at hP
  have hS : va_S A s.heap H [] := by rw [← hH]; exact va_S.rf
  generalize hlo : ([] : List Loc) = locs at hS
  refine lv_iconst (v := 0) hx hb dX2_pinnedBytes_0 (by decide) ?_
  refine lv_istore_n (lv' := [(2, .int 0), (0, .ref bx), (1, .int (bI b))]) hx hb dX2_pinnedBytes_1 rfl hl (by decide) rfl (fun ls hl => ?_)
  refine lv_iconst (v := 0) hx hb dX2_pinnedBytes_2 (by decide) ?_
  refine lv_istore_n (lv' := [(3, .int 0), (2, .int 0), (0, .ref bx), (1, .int (bI b))]) hx hb dX2_pinnedBytes_3 rfl hl (by decide) rfl (fun ls hl => ?_)
  have loop : ∀ (n i : Nat) (ls : Array Slot) (H : Heap) (locs : List Loc), i ≤ 32 → 32 - i < n → va_P D vwCl (mW bx ba cI cJ cZ (σ)) H → va_D A (mW bx ba cI cJ cZ (σ)) → va_S A s.heap H locs → lv_has ls 4 [(0, .ref bx), (1, .int (bI b)), (2, .int (sumI (mPF σ b) i)), (3, .int (nI i))] → W p l e (headSpec wsX2_pinnedBytes ({ frames := 1, cells := 0, slots := 0, locals := 40 } : Room)).room s m [.ref bx, .int (bI b)].toArray below meth c H locs 0 0 (MQ below (va_Qi (fun (r : Int32) (u : St) => r = mPin σ b ∧ u = σ) (xB D (mT cI cJ cZ) (mW bx ba cI cJ cZ) A) A) [.ref bx, .int (bI b)].toArray s 0 0 A) (F0 m 4 ls []) := by
    intro n
    induction n with
    | zero =>
      intro i ls H locs h1 h2
      exact absurd h2 (by omega)
    | succ n ih =>
      intro i ls H locs hi hn hP hD hS hl
      refine lv_iload_n hx hb dX2_pinnedBytes_4 rfl (lv_at hl 3 rfl) ?_
      refine lv_bipush (v := 32) hx hb dX2_pinnedBytes_5 (by decide) ?_
      refine x_icmp_ge (tgt := 59) hx hb dX2_pinnedBytes_7 (by decide) (fun c_1 => ?_) (fun c_1 => ?_)
      · have hi9 : i = 32 := by
          rcases Nat.lt_or_ge i 32 with q | q
          · exact absurd ((nI_lt32 hi).mpr q) c_1
          · omega
        subst hi9
        refine lv_iload_n hx hb dX2_pinnedBytes_59 rfl (lv_at hl 2 rfl) ?_
        exact x_iret hx hb hr hlocks hK (σ) hP hD hS ⟨rfl, rfl⟩ dX2_pinnedBytes_60
      · have hlt : i < 32 := (nI_lt32 hi).mp c_1
        refine lv_iload_n hx hb dX2_pinnedBytes_10 rfl (lv_at hl 2 rfl) ?_
        refine lv_aload_n hx hb dX2_pinnedBytes_11 rfl (lv_at hl 0 rfl) ?_
        refine m_get hx hb hts hi2 hown hK hP 5 (by decide) (List.mem_of_getElem? (i := 1) rfl) (v := .ref (ba 0)) rfl dX2_pinnedBytes_12 (fun _ h => h) ?_
        refine lv_iload_n hx hb dX2_pinnedBytes_15 rfl (lv_at hl 3 rfl) ?_
        refine m_ld0 hx hb hK hP hlt dX2_pinnedBytes_16 ?_
        refine x_ifeq (tgt := 50) hx hb dX2_pinnedBytes_17 (by decide) (fun c_2 => ?_) (fun c_2 => ?_)
        · refine lv_iconst (v := 0) hx hb dX2_pinnedBytes_50 (by decide) ?_
          refine lv_iadd hx hb dX2_pinnedBytes_51 ?_
          refine lv_istore_n (lv' := [(2, .int ((sumI (mPF σ b) i) + 0)), (0, .ref bx), (1, .int (bI b)), (3, .int (nI i))]) hx hb dX2_pinnedBytes_52 rfl hl (by decide) rfl (fun ls hl => ?_)
          refine lv_iinc (v := (nI i) + 1) (lv' := [(3, .int ((nI i) + 1)), (2, .int ((sumI (mPF σ b) i) + 0)), (0, .ref bx), (1, .int (bI b))]) hx hb dX2_pinnedBytes_53 hl (k := 3) rfl rfl (by decide) rfl (fun ls hl => ?_)
          refine lv_goto (tgt := 4) hx hb dX2_pinnedBytes_56 (by decide) ?_
          have e9_0 : sumI (mPF σ b) (i + 1) = (sumI (mPF σ b) i) + 0 := by simp [sumI, mPF, Int32.add_zero, c_1, c_2]
          exact ih (i + 1) ls H locs (by omega) (by omega) hP hD hS (by rw [e9_0, nI_succ]; exact lv_sub hl [2, 3, 1, 0] rfl)
        · refine lv_aload_n hx hb dX2_pinnedBytes_20 rfl (lv_at hl 0 rfl) ?_
          refine m_get hx hb hts hi2 hown hK hP 6 (by decide) (List.mem_of_getElem? (i := 2) rfl) (v := .ref (ba 1)) rfl dX2_pinnedBytes_21 (fun _ h => h) ?_
          refine lv_iload_n hx hb dX2_pinnedBytes_24 rfl (lv_at hl 3 rfl) ?_
          refine m_ld1 hx hb hK hP hlt dX2_pinnedBytes_25 ?_
          refine x_ifeq (tgt := 50) hx hb dX2_pinnedBytes_26 (by decide) (fun c_3 => ?_) (fun c_3 => ?_)
          · refine lv_iconst (v := 0) hx hb dX2_pinnedBytes_50 (by decide) ?_
            refine lv_iadd hx hb dX2_pinnedBytes_51 ?_
            refine lv_istore_n (lv' := [(2, .int ((sumI (mPF σ b) i) + 0)), (0, .ref bx), (1, .int (bI b)), (3, .int (nI i))]) hx hb dX2_pinnedBytes_52 rfl hl (by decide) rfl (fun ls hl => ?_)
            refine lv_iinc (v := (nI i) + 1) (lv' := [(3, .int ((nI i) + 1)), (2, .int ((sumI (mPF σ b) i) + 0)), (0, .ref bx), (1, .int (bI b))]) hx hb dX2_pinnedBytes_53 hl (k := 3) rfl rfl (by decide) rfl (fun ls hl => ?_)
            refine lv_goto (tgt := 4) hx hb dX2_pinnedBytes_56 (by decide) ?_
            have e9_0 : sumI (mPF σ b) (i + 1) = (sumI (mPF σ b) i) + 0 := by simp [sumI, mPF, Int32.add_zero, c_1, c_2, c_3]
            exact ih (i + 1) ls H locs (by omega) (by omega) hP hD hS (by rw [e9_0, nI_succ]; exact lv_sub hl [2, 3, 1, 0] rfl)
          · refine lv_iload_n hx hb dX2_pinnedBytes_29 rfl (lv_at hl 1 rfl) ?_
            refine x_ifne (tgt := 41) hx hb dX2_pinnedBytes_30 (by decide) (fun c_4 => ?_) (fun c_4 => ?_)
            · refine lv_aload_n hx hb dX2_pinnedBytes_41 rfl (lv_at hl 0 rfl) ?_
              refine m_get hx hb hts hi2 hown hK hP 7 (by decide) (List.mem_of_getElem? (i := 3) rfl) (v := .ref (ba 2)) rfl dX2_pinnedBytes_42 (fun _ h => h) ?_
              refine lv_iload_n hx hb dX2_pinnedBytes_45 rfl (lv_at hl 3 rfl) ?_
              refine m_ld2 hx hb hK hP hlt dX2_pinnedBytes_46 ?_
              refine lv_goto (tgt := 51) hx hb dX2_pinnedBytes_47 (by decide) ?_
              refine lv_iadd hx hb dX2_pinnedBytes_51 ?_
              refine lv_istore_n (lv' := [(2, .int ((sumI (mPF σ b) i) + (gS σ 3 i))), (0, .ref bx), (1, .int (bI b)), (3, .int (nI i))]) hx hb dX2_pinnedBytes_52 rfl hl (by decide) rfl (fun ls hl => ?_)
              refine lv_iinc (v := (nI i) + 1) (lv' := [(3, .int ((nI i) + 1)), (2, .int ((sumI (mPF σ b) i) + (gS σ 3 i))), (0, .ref bx), (1, .int (bI b))]) hx hb dX2_pinnedBytes_53 hl (k := 3) rfl rfl (by decide) rfl (fun ls hl => ?_)
              refine lv_goto (tgt := 4) hx hb dX2_pinnedBytes_56 (by decide) ?_
              have e9_0 : sumI (mPF σ b) (i + 1) = (sumI (mPF σ b) i) + (gS σ 3 i) := by simp [sumI, mPF, Int32.add_zero, c_1, c_2, c_3, c_4]
              exact ih (i + 1) ls H locs (by omega) (by omega) hP hD hS (by rw [e9_0, nI_succ]; exact lv_sub hl [2, 3, 1, 0] rfl)
            · refine lv_aload_n hx hb dX2_pinnedBytes_33 rfl (lv_at hl 0 rfl) ?_
              refine lv_iload_n hx hb dX2_pinnedBytes_34 rfl (lv_at hl 3 rfl) ?_
              refine x_calli (va_runV (As := [.int (nI i)]) (rest := [.int (sumI (mPF σ b) i)]) ⟨hx, hb, hml, hown, hts⟩ (k_X2_over l D bx ba cI cJ cZ H.size σ hlt) (cwV 1 hts gX2_pinnedBytes_X2_over rfl rfl rfl (by decide +kernel) ⟨Nat.le_of_ble_eq_true rfl, Nat.le_of_ble_eq_true rfl⟩) (xPreV mE_ok hE hK hA hP hD hS (q0 := 0) (ci := 2) rfl rfl rfl) rfl rfl hl.1 rfl (lv_room (Nat.le_of_ble_eq_true rfl)) dX2_pinnedBytes_35 ⟨Nat.le_of_ble_eq_true rfl, Nat.le_of_ble_eq_true rfl⟩) hD hS hA (fun r u H locs hp hP hD hS => ?_)
              obtain ⟨rfl, hu9⟩ := hp
              rw [hu9] at hP hD
              refine x_ifne (tgt := 50) hx hb dX2_pinnedBytes_38 (by decide) (fun c_5 => ?_) (fun c_5 => ?_)
              · refine lv_iconst (v := 0) hx hb dX2_pinnedBytes_50 (by decide) ?_
                refine lv_iadd hx hb dX2_pinnedBytes_51 ?_
                refine lv_istore_n (lv' := [(2, .int ((sumI (mPF σ b) i) + 0)), (0, .ref bx), (1, .int (bI b)), (3, .int (nI i))]) hx hb dX2_pinnedBytes_52 rfl hl (by decide) rfl (fun ls hl => ?_)
                refine lv_iinc (v := (nI i) + 1) (lv' := [(3, .int ((nI i) + 1)), (2, .int ((sumI (mPF σ b) i) + 0)), (0, .ref bx), (1, .int (bI b))]) hx hb dX2_pinnedBytes_53 hl (k := 3) rfl rfl (by decide) rfl (fun ls hl => ?_)
                refine lv_goto (tgt := 4) hx hb dX2_pinnedBytes_56 (by decide) ?_
                have e9_0 : sumI (mPF σ b) (i + 1) = (sumI (mPF σ b) i) + 0 := by simp [sumI, mPF, Int32.add_zero, c_1, c_2, c_3, c_4, c_5]
                exact ih (i + 1) ls H locs (by omega) (by omega) hP hD hS (by rw [e9_0, nI_succ]; exact lv_sub hl [2, 3, 1, 0] rfl)
              · refine lv_aload_n hx hb dX2_pinnedBytes_41 rfl (lv_at hl 0 rfl) ?_
                refine m_get hx hb hts hi2 hown hK hP 7 (by decide) (List.mem_of_getElem? (i := 3) rfl) (v := .ref (ba 2)) rfl dX2_pinnedBytes_42 (fun _ h => h) ?_
                refine lv_iload_n hx hb dX2_pinnedBytes_45 rfl (lv_at hl 3 rfl) ?_
                refine m_ld2 hx hb hK hP hlt dX2_pinnedBytes_46 ?_
                refine lv_goto (tgt := 51) hx hb dX2_pinnedBytes_47 (by decide) ?_
                refine lv_iadd hx hb dX2_pinnedBytes_51 ?_
                refine lv_istore_n (lv' := [(2, .int ((sumI (mPF σ b) i) + (gS σ 3 i))), (0, .ref bx), (1, .int (bI b)), (3, .int (nI i))]) hx hb dX2_pinnedBytes_52 rfl hl (by decide) rfl (fun ls hl => ?_)
                refine lv_iinc (v := (nI i) + 1) (lv' := [(3, .int ((nI i) + 1)), (2, .int ((sumI (mPF σ b) i) + (gS σ 3 i))), (0, .ref bx), (1, .int (bI b))]) hx hb dX2_pinnedBytes_53 hl (k := 3) rfl rfl (by decide) rfl (fun ls hl => ?_)
                refine lv_goto (tgt := 4) hx hb dX2_pinnedBytes_56 (by decide) ?_
                have e9_0 : sumI (mPF σ b) (i + 1) = (sumI (mPF σ b) i) + (gS σ 3 i) := by simp [sumI, mPF, Int32.add_zero, c_1, c_2, c_3, c_4, c_5]
                exact ih (i + 1) ls H locs (by omega) (by omega) hP hD hS (by rw [e9_0, nI_succ]; exact lv_sub hl [2, 3, 1, 0] rfl)
  exact loop 33 0 _ _ _ (Nat.zero_le _) (by decide) hP hD hS (lv_sub hl [2, 3, 1, 0] rfl)
