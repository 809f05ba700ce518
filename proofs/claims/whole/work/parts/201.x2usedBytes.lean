set_option maxHeartbeats 4000000 in
set_option maxRecDepth 100000 in
theorem k_X2_usedBytes (l : Launch) (D : va_G) (bx : Nat) (ba : Nat → Nat) (cI cJ cZ : ClassId) (sz : Nat) (σ : St) : Met l yX2_usedBytes wsX2_usedBytes ({ frames := 0, cells := 0, slots := 0, locals := 0 } : Room) (va_Pc [.ref bx] (xPre D (mT cI cJ cZ) mE (mW bx ba cI cJ cZ) σ sz)) (va_Qi (fun (r : Int32) (u : St) => r = used σ ∧ u = σ) (xB D (mT cI cJ cZ) (mW bx ba cI cJ cZ) (va_A (mW bx ba cI cJ cZ σ) sz)) (va_A (mW bx ba cI cJ cZ σ) sz)) 0 0 (va_A (mW bx ba cI cJ cZ σ) sz) := by
  refine xOpen (w := (mW bx ba cI cJ cZ)) (σ := σ) (cc := cX2_usedBytes) (maxL := 3) (ret := some .int) (QQ := fun A => va_Qi (fun (r : Int32) (u : St) => r = used σ ∧ u = σ) (xB D (mT cI cJ cZ) (mW bx ba cI cJ cZ) A) A) (by decide) rfl (Nat.le_of_ble_eq_true rfl) ?_
  intro p e s m below meth c A hx hb hr hml hown hts hlocks hname hK hE hA hP hD hS ls hl
  have hl : lv_has ls 3 [(0, .ref bx)] := hl
  have hown : s.vm.findClass RX2 = some m.cls := hown
  have hi2 : ∀ w ∈ wsX20, w ∈ wsX2_usedBytes := (fun _ h => List.mem_cons_of_mem _ (List.mem_append_right _ h))
  generalize hH : s.heap = H at hP
  have hS : va_S A s.heap H [] := by rw [← hH]; exact va_S.rf
  generalize hlo : ([] : List Loc) = locs at hS
  refine lv_iconst (v := 0) hx hb dX2_usedBytes_0 (by decide) ?_
  refine lv_istore_n (lv' := [(1, .int 0), (0, .ref bx)]) hx hb dX2_usedBytes_1 rfl hl (by decide) rfl (fun ls hl => ?_)
  refine lv_iconst (v := 0) hx hb dX2_usedBytes_2 (by decide) ?_
  refine lv_istore_n (lv' := [(2, .int 0), (1, .int 0), (0, .ref bx)]) hx hb dX2_usedBytes_3 rfl hl (by decide) rfl (fun ls hl => ?_)
  have loop : ∀ (n i : Nat) (ls : Array Slot), i ≤ 32 → 32 - i < n → lv_has ls 3 [(0, .ref bx), (1, .int (sumI (uF σ) i)), (2, .int (nI i))] → W p l e (headSpec wsX2_usedBytes ({ frames := 0, cells := 0, slots := 0, locals := 0 } : Room)).room s m [.ref bx].toArray below meth c H locs 0 0 (MQ below (va_Qi (fun (r : Int32) (u : St) => r = used σ ∧ u = σ) (xB D (mT cI cJ cZ) (mW bx ba cI cJ cZ) A) A) [.ref bx].toArray s 0 0 A) (F0 m 4 ls []) := by
    intro n
    induction n with
    | zero =>
      intro i ls h1 h2
      exact absurd h2 (by omega)
    | succ n ih =>
      intro i ls hi hn hl
      refine lv_iload_n hx hb dX2_usedBytes_4 rfl (lv_at hl 2 rfl) ?_
      refine lv_bipush (v := 32) hx hb dX2_usedBytes_5 (by decide) ?_
      refine x_icmp_ge (tgt := 38) hx hb dX2_usedBytes_7 (by decide) (fun c_1 => ?_) (fun c_1 => ?_)
      · have hi9 : i = 32 := by
          rcases Nat.lt_or_ge i 32 with q | q
          · exact absurd ((nI_lt32 hi).mpr q) c_1
          · omega
        subst hi9
        refine lv_iload_n hx hb dX2_usedBytes_38 rfl (lv_at hl 1 rfl) ?_
        exact x_iret hx hb hr hlocks hK (σ) hP hD hS ⟨rfl, rfl⟩ dX2_usedBytes_39
      · have hlt : i < 32 := (nI_lt32 hi).mp c_1
        refine lv_iload_n hx hb dX2_usedBytes_10 rfl (lv_at hl 1 rfl) ?_
        refine lv_aload_n hx hb dX2_usedBytes_11 rfl (lv_at hl 0 rfl) ?_
        refine m_get hx hb hts hi2 hown hK hP 5 (by decide) (List.mem_of_getElem? (i := 1) rfl) (v := .ref (ba 0)) rfl dX2_usedBytes_12 (fun _ h => h) ?_
        refine lv_iload_n hx hb dX2_usedBytes_15 rfl (lv_at hl 2 rfl) ?_
        refine m_ld0 hx hb hK hP hlt dX2_usedBytes_16 ?_
        refine x_ifeq (tgt := 29) hx hb dX2_usedBytes_17 (by decide) (fun c_2 => ?_) (fun c_2 => ?_)
        · refine lv_iconst (v := 0) hx hb dX2_usedBytes_29 (by decide) ?_
          refine lv_iadd hx hb dX2_usedBytes_30 ?_
          refine lv_istore_n (lv' := [(1, .int ((sumI (uF σ) i) + 0)), (0, .ref bx), (2, .int (nI i))]) hx hb dX2_usedBytes_31 rfl hl (by decide) rfl (fun ls hl => ?_)
          refine lv_iinc (v := (nI i) + 1) (lv' := [(2, .int ((nI i) + 1)), (1, .int ((sumI (uF σ) i) + 0)), (0, .ref bx)]) hx hb dX2_usedBytes_32 hl (k := 2) rfl rfl (by decide) rfl (fun ls hl => ?_)
          refine lv_goto (tgt := 4) hx hb dX2_usedBytes_35 (by decide) ?_
          have e9_0 : sumI (uF σ) (i + 1) = (sumI (uF σ) i) + 0 := by simp [sumI, uF, Int32.add_zero, c_1, c_2]
          exact ih (i + 1) ls (by omega) (by omega) (by rw [e9_0, nI_succ]; exact lv_sub hl [2, 1, 0] rfl)
        · refine lv_aload_n hx hb dX2_usedBytes_20 rfl (lv_at hl 0 rfl) ?_
          refine m_get hx hb hts hi2 hown hK hP 7 (by decide) (List.mem_of_getElem? (i := 2) rfl) (v := .ref (ba 2)) rfl dX2_usedBytes_21 (fun _ h => h) ?_
          refine lv_iload_n hx hb dX2_usedBytes_24 rfl (lv_at hl 2 rfl) ?_
          refine m_ld2 hx hb hK hP hlt dX2_usedBytes_25 ?_
          refine lv_goto (tgt := 30) hx hb dX2_usedBytes_26 (by decide) ?_
          refine lv_iadd hx hb dX2_usedBytes_30 ?_
          refine lv_istore_n (lv' := [(1, .int ((sumI (uF σ) i) + (gS σ 3 i))), (0, .ref bx), (2, .int (nI i))]) hx hb dX2_usedBytes_31 rfl hl (by decide) rfl (fun ls hl => ?_)
          refine lv_iinc (v := (nI i) + 1) (lv' := [(2, .int ((nI i) + 1)), (1, .int ((sumI (uF σ) i) + (gS σ 3 i))), (0, .ref bx)]) hx hb dX2_usedBytes_32 hl (k := 2) rfl rfl (by decide) rfl (fun ls hl => ?_)
          refine lv_goto (tgt := 4) hx hb dX2_usedBytes_35 (by decide) ?_
          have e9_0 : sumI (uF σ) (i + 1) = (sumI (uF σ) i) + (gS σ 3 i) := by simp [sumI, uF, Int32.add_zero, c_1, c_2]
          exact ih (i + 1) ls (by omega) (by omega) (by rw [e9_0, nI_succ]; exact lv_sub hl [2, 1, 0] rfl)
  exact loop 33 0 _ (Nat.zero_le _) (by decide) (lv_sub hl [2, 1, 0] rfl)
set_option maxHeartbeats 4000000 in
set_option maxRecDepth 100000 in
theorem k_X2_entries (l : Launch) (D : va_G) (bx : Nat) (ba : Nat → Nat) (cI cJ cZ : ClassId) (sz : Nat) (σ : St) : Met l yX2_entries wsX2_entries ({ frames := 0, cells := 0, slots := 0, locals := 0 } : Room) (va_Pc [.ref bx] (xPre D (mT cI cJ cZ) mE (mW bx ba cI cJ cZ) σ sz)) (va_Qi (fun (r : Int32) (u : St) => r = ents σ ∧ u = uI σ 20 0) (xB D (mT cI cJ cZ) (mW bx ba cI cJ cZ) (va_A (mW bx ba cI cJ cZ σ) sz)) (va_A (mW bx ba cI cJ cZ σ) sz)) 0 0 (va_A (mW bx ba cI cJ cZ σ) sz) := by
  refine xOpen (w := (mW bx ba cI cJ cZ)) (σ := σ) (cc := cX2_entries) (maxL := 3) (ret := some .int) (QQ := fun A => va_Qi (fun (r : Int32) (u : St) => r = ents σ ∧ u = uI σ 20 0) (xB D (mT cI cJ cZ) (mW bx ba cI cJ cZ) A) A) (by decide) rfl (Nat.le_of_ble_eq_true rfl) ?_
  intro p e s m below meth c A hx hb hr hml hown hts hlocks hname hK hE hA hP hD hS ls hl
  have hl : lv_has ls 3 [(0, .ref bx)] := hl
  have hown : s.vm.findClass RX2 = some m.cls := hown
  have hi2 : ∀ w ∈ wsX20, w ∈ wsX2_entries := (fun _ h => List.mem_cons_of_mem _ (List.mem_append_right _ h))
  generalize hH : s.heap = H at hP
  have hS : va_S A s.heap H [] := by rw [← hH]; exact va_S.rf
  generalize hlo : ([] : List Loc) = locs at hS
  refine lv_aload_n hx hb dX2_entries_0 rfl (lv_at hl 0 rfl) ?_
  refine lv_iconst (v := 0) hx hb dX2_entries_1 (by decide) ?_
  refine m_put hx hb hts hi2 hown hK hP hD hS 21 (by decide) (List.mem_of_getElem? (i := 1) rfl) (v := .int 0) (ty := .int) (uI σ 20 0) (mF_21 bx ba cI cJ cZ _ _) rfl (by decide +kernel) rfl rfl dX2_entries_2 (fun _ h => h) (fun H locs hP hD hS => ?_)
  refine lv_iconst (v := 0) hx hb dX2_entries_5 (by decide) ?_
  refine lv_istore_n (lv' := [(1, .int 0), (0, .ref bx)]) hx hb dX2_entries_6 rfl hl (by decide) rfl (fun ls hl => ?_)
  refine lv_iconst (v := 0) hx hb dX2_entries_7 (by decide) ?_
  refine lv_istore_n (lv' := [(2, .int 0), (1, .int 0), (0, .ref bx)]) hx hb dX2_entries_8 rfl hl (by decide) rfl (fun ls hl => ?_)
  have loop : ∀ (n i : Nat) (ls : Array Slot), i ≤ 32 → 32 - i < n → lv_has ls 3 [(0, .ref bx), (1, .int (sumI (eF σ) i)), (2, .int (nI i))] → W p l e (headSpec wsX2_entries ({ frames := 0, cells := 0, slots := 0, locals := 0 } : Room)).room s m [.ref bx].toArray below meth c H locs 0 0 (MQ below (va_Qi (fun (r : Int32) (u : St) => r = ents σ ∧ u = uI σ 20 0) (xB D (mT cI cJ cZ) (mW bx ba cI cJ cZ) A) A) [.ref bx].toArray s 0 0 A) (F0 m 9 ls []) := by
    intro n
    induction n with
    | zero =>
      intro i ls h1 h2
      exact absurd h2 (by omega)
    | succ n ih =>
      intro i ls hi hn hl
      refine lv_iload_n hx hb dX2_entries_9 rfl (lv_at hl 2 rfl) ?_
      refine lv_bipush (v := 32) hx hb dX2_entries_10 (by decide) ?_
      refine x_icmp_ge (tgt := 38) hx hb dX2_entries_12 (by decide) (fun c_1 => ?_) (fun c_1 => ?_)
      · have hi9 : i = 32 := by
          rcases Nat.lt_or_ge i 32 with q | q
          · exact absurd ((nI_lt32 hi).mpr q) c_1
          · omega
        subst hi9
        refine lv_iload_n hx hb dX2_entries_38 rfl (lv_at hl 1 rfl) ?_
        exact x_iret hx hb hr hlocks hK (uI σ 20 0) hP hD hS ⟨rfl, rfl⟩ dX2_entries_39
      · have hlt : i < 32 := (nI_lt32 hi).mp c_1
        refine lv_iload_n hx hb dX2_entries_15 rfl (lv_at hl 1 rfl) ?_
        refine lv_aload_n hx hb dX2_entries_16 rfl (lv_at hl 0 rfl) ?_
        refine m_get hx hb hts hi2 hown hK hP 5 (by decide) (List.mem_of_getElem? (i := 2) rfl) (v := .ref (ba 0)) rfl dX2_entries_17 (fun _ h => h) ?_
        refine lv_iload_n hx hb dX2_entries_20 rfl (lv_at hl 2 rfl) ?_
        refine m_ld0 hx hb hK hP hlt dX2_entries_21 ?_
        refine W.eq (g2 := F0 m 22 ls [.int (bI (gB σ 1 i)), .int (sumI (eF σ) i)]) rfl ?_
        refine x_ifeq (tgt := 29) hx hb dX2_entries_22 (by decide) (fun c_2 => ?_) (fun c_2 => ?_)
        · refine lv_iconst (v := 0) hx hb dX2_entries_29 (by decide) ?_
          refine lv_iadd hx hb dX2_entries_30 ?_
          refine lv_istore_n (lv' := [(1, .int ((sumI (eF σ) i) + 0)), (0, .ref bx), (2, .int (nI i))]) hx hb dX2_entries_31 rfl hl (by decide) rfl (fun ls hl => ?_)
          refine lv_iinc (v := (nI i) + 1) (lv' := [(2, .int ((nI i) + 1)), (1, .int ((sumI (eF σ) i) + 0)), (0, .ref bx)]) hx hb dX2_entries_32 hl (k := 2) rfl rfl (by decide) rfl (fun ls hl => ?_)
          refine lv_goto (tgt := 9) hx hb dX2_entries_35 (by decide) ?_
          have e9_0 : sumI (eF σ) (i + 1) = (sumI (eF σ) i) + 0 := by simp [sumI, eF, Int32.add_zero, c_1, c_2]
          exact ih (i + 1) ls (by omega) (by omega) (by rw [e9_0, nI_succ]; exact lv_sub hl [2, 1, 0] rfl)
        · refine lv_iconst (v := 1) hx hb dX2_entries_25 (by decide) ?_
          refine lv_goto (tgt := 30) hx hb dX2_entries_26 (by decide) ?_
          refine lv_iadd hx hb dX2_entries_30 ?_
          refine lv_istore_n (lv' := [(1, .int ((sumI (eF σ) i) + 1)), (0, .ref bx), (2, .int (nI i))]) hx hb dX2_entries_31 rfl hl (by decide) rfl (fun ls hl => ?_)
          refine lv_iinc (v := (nI i) + 1) (lv' := [(2, .int ((nI i) + 1)), (1, .int ((sumI (eF σ) i) + 1)), (0, .ref bx)]) hx hb dX2_entries_32 hl (k := 2) rfl rfl (by decide) rfl (fun ls hl => ?_)
          refine lv_goto (tgt := 9) hx hb dX2_entries_35 (by decide) ?_
          have e9_0 : sumI (eF σ) (i + 1) = (sumI (eF σ) i) + 1 := by simp [sumI, eF, Int32.add_zero, c_1, c_2]
          exact ih (i + 1) ls (by omega) (by omega) (by rw [e9_0, nI_succ]; exact lv_sub hl [2, 1, 0] rfl)
  exact loop 33 0 _ (Nat.zero_le _) (by decide) (lv_sub hl [2, 1, 0] rfl)
set_option maxHeartbeats 4000000 in
set_option maxRecDepth 100000 in
theorem k_X2_isAhead (l : Launch) (D : va_G) (bx : Nat) (ba : Nat → Nat) (cI cJ cZ : ClassId) (sz : Nat) (σ : St) {i j : Nat} (hi : i < 32) (hj : j < 32) : Met l yX2_isAhead wsX2_isAhead ({ frames := 0, cells := 0, slots := 0, locals := 0 } : Room) (va_Pc [.ref bx, .int (nI i), .int (nI j)] (xPre D (mT cI cJ cZ) mE (mW bx ba cI cJ cZ) σ sz)) (va_Qi (fun (r : Int32) (u : St) => r = bI (bef σ i j) ∧ u = σ) (xB D (mT cI cJ cZ) (mW bx ba cI cJ cZ) (va_A (mW bx ba cI cJ cZ σ) sz)) (va_A (mW bx ba cI cJ cZ σ) sz)) 0 0 (va_A (mW bx ba cI cJ cZ σ) sz) := by
  refine xOpen (w := (mW bx ba cI cJ cZ)) (σ := σ) (cc := cX2_isAhead) (maxL := 3) (ret := some .boolean) (QQ := fun A => va_Qi (fun (r : Int32) (u : St) => r = bI (bef σ i j) ∧ u = σ) (xB D (mT cI cJ cZ) (mW bx ba cI cJ cZ) A) A) (by decide) rfl (Nat.le_of_ble_eq_true rfl) ?_
  intro p e s m below meth c A hx hb hr hml hown hts hlocks hname hK hE hA hP hD hS ls hl
  have hl : lv_has ls 3 [(0, .ref bx), (1, .int (nI i)), (2, .int (nI j))] := hl
  have hown : s.vm.findClass RX2 = some m.cls := hown
  have hi2 : ∀ w ∈ wsX20, w ∈ wsX2_isAhead := (fun _ h => List.mem_cons_of_mem _ (List.mem_append_right _ h))
  generalize hH : s.heap = H at hP
  have hS : va_S A s.heap H [] := by rw [← hH]; exact va_S.rf
  generalize hlo : ([] : List Loc) = locs at hS
  refine lv_aload_n hx hb dX2_isAhead_0 rfl (lv_at hl 0 rfl) ?_
  refine m_get hx hb hts hi2 hown hK hP 10 (by decide) (List.mem_of_getElem? (i := 1) rfl) (v := .ref (ba 5)) rfl dX2_isAhead_1 (fun _ h => h) ?_
  refine lv_iload_n hx hb dX2_isAhead_4 rfl (lv_at hl 1 rfl) ?_
  refine m_ld5 hx hb hK hP hi dX2_isAhead_5 ?_
  refine lv_aload_n hx hb dX2_isAhead_6 rfl (lv_at hl 0 rfl) ?_
  refine m_get hx hb hts hi2 hown hK hP 10 (by decide) (List.mem_of_getElem? (i := 1) rfl) (v := .ref (ba 5)) rfl dX2_isAhead_7 (fun _ h => h) ?_
  refine lv_iload_n hx hb dX2_isAhead_10 rfl (lv_at hl 2 rfl) ?_
  refine m_ld5 hx hb hK hP hj dX2_isAhead_11 ?_
  refine x_eq (tgt := 40) hx hb dX2_isAhead_12 dX2_isAhead_13 (by decide) (fun c_1 => ?_) (fun c_1 => ?_)
  · refine lv_aload_n hx hb dX2_isAhead_40 rfl (lv_at hl 0 rfl) ?_
    refine m_get hx hb hts hi2 hown hK hP 12 (by decide) (List.mem_of_getElem? (i := 2) rfl) (v := .ref (ba 7)) rfl dX2_isAhead_41 (fun _ h => h) ?_
    refine lv_iload_n hx hb dX2_isAhead_44 rfl (lv_at hl 1 rfl) ?_
    refine m_ld7 hx hb hK hP hi dX2_isAhead_45 ?_
    refine lv_aload_n hx hb dX2_isAhead_46 rfl (lv_at hl 0 rfl) ?_
    refine m_get hx hb hts hi2 hown hK hP 12 (by decide) (List.mem_of_getElem? (i := 2) rfl) (v := .ref (ba 7)) rfl dX2_isAhead_47 (fun _ h => h) ?_
    refine lv_iload_n hx hb dX2_isAhead_50 rfl (lv_at hl 2 rfl) ?_
    refine m_ld7 hx hb hK hP hj dX2_isAhead_51 ?_
    refine x_ge (tgt := 60) hx hb dX2_isAhead_52 dX2_isAhead_53 (by decide) (fun c_2 => ?_) (fun c_2 => ?_)
    · refine lv_iconst (v := 0) hx hb dX2_isAhead_60 (by decide) ?_
      exact x_zret (b := false) hx hb hr hlocks hK (σ) hP hD hS ⟨by simp [bef, c_1, c_2], rfl⟩ dX2_isAhead_61
    · refine lv_iconst (v := 1) hx hb dX2_isAhead_56 (by decide) ?_
      refine lv_goto (tgt := 61) hx hb dX2_isAhead_57 (by decide) ?_
      exact x_zret (b := true) hx hb hr hlocks hK (σ) hP hD hS ⟨by simp [bef, c_1, c_2], rfl⟩ dX2_isAhead_61
  · refine lv_aload_n hx hb dX2_isAhead_16 rfl (lv_at hl 0 rfl) ?_
    refine m_get hx hb hts hi2 hown hK hP 10 (by decide) (List.mem_of_getElem? (i := 1) rfl) (v := .ref (ba 5)) rfl dX2_isAhead_17 (fun _ h => h) ?_
    refine lv_iload_n hx hb dX2_isAhead_20 rfl (lv_at hl 1 rfl) ?_
    refine m_ld5 hx hb hK hP hi dX2_isAhead_21 ?_
    refine lv_aload_n hx hb dX2_isAhead_22 rfl (lv_at hl 0 rfl) ?_
    refine m_get hx hb hts hi2 hown hK hP 10 (by decide) (List.mem_of_getElem? (i := 1) rfl) (v := .ref (ba 5)) rfl dX2_isAhead_23 (fun _ h => h) ?_
    refine lv_iload_n hx hb dX2_isAhead_26 rfl (lv_at hl 2 rfl) ?_
    refine m_ld5 hx hb hK hP hj dX2_isAhead_27 ?_
    refine x_ge (tgt := 36) hx hb dX2_isAhead_28 dX2_isAhead_29 (by decide) (fun c_3 => ?_) (fun c_3 => ?_)
    · refine lv_iconst (v := 0) hx hb dX2_isAhead_36 (by decide) ?_
      refine lv_goto (tgt := 61) hx hb dX2_isAhead_37 (by decide) ?_
      exact x_zret (b := false) hx hb hr hlocks hK (σ) hP hD hS ⟨by simp [bef, c_1, c_3], rfl⟩ dX2_isAhead_61
    · refine lv_iconst (v := 1) hx hb dX2_isAhead_32 (by decide) ?_
      refine lv_goto (tgt := 61) hx hb dX2_isAhead_33 (by decide) ?_
      exact x_zret (b := true) hx hb hr hlocks hK (σ) hP hD hS ⟨by simp [bef, c_1, c_3], rfl⟩ dX2_isAhead_61
