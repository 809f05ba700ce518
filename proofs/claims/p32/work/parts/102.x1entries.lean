set_option maxHeartbeats 4000000 in
set_option maxRecDepth 100000 in
theorem k_X1_entries (l : Launch) (D : va_G) (ax ar : Nat) (ad : Nat → Nat) (cO : ClassId) (sz : Nat) (σ : St) : Met l yX1_entries wsX1_entries ({ frames := 1, cells := 0, slots := 0, locals := 30 } : Room) (va_Pc [.ref ax] (xPre D (cT cO) xE (cW ax ar ad cO) σ sz)) (va_Qi (fun (r : Int32) (u : St) => r = ents σ ∧ u = σ) (xB D (cT cO) (cW ax ar ad cO) (va_A (cW ax ar ad cO σ) sz)) (va_A (cW ax ar ad cO σ) sz)) 0 0 (va_A (cW ax ar ad cO σ) sz) := by
  refine xOpen (w := (cW ax ar ad cO)) (σ := σ) (cc := cX1_entries) (maxL := 6) (ret := some .int) (QQ := fun A => va_Qi (fun (r : Int32) (u : St) => r = ents σ ∧ u = σ) (xB D (cT cO) (cW ax ar ad cO) A) A) (by decide) rfl (Nat.le_of_ble_eq_true rfl) ?_
  intro p e s m below meth c A hx hb hr hml hown hts hlocks hname hK hE hA hP hD hS ls hl
  have hl : lv_has ls 6 [(0, .ref ax)] := hl
  have hown : s.vm.findClass RX1 = some m.cls := hown
  have hi0 : ∀ w ∈ wsX00, w ∈ wsX1_entries := (fun _ h => List.mem_cons_of_mem _ (List.mem_append_right _ h))
  have hi1 : ∀ w ∈ wsX10, w ∈ wsX1_entries := (fun _ h => List.mem_cons_of_mem _ (List.mem_append_left _ (List.mem_append_right _ h)))
  generalize hH : s.heap = H at hP
  have hS : va_S A s.heap H [] := by rw [← hH]; exact va_S.rf
  generalize hlo : ([] : List Loc) = locs at hS
  refine lv_iconst (v := 0) hx hb dX1_entries_0 (by decide) ?_
  refine lv_istore_n (lv' := [(1, .int 0), (0, .ref ax)]) hx hb dX1_entries_1 rfl hl (by decide) rfl (fun ls hl => ?_)
  refine lv_aload_n hx hb dX1_entries_2 rfl (lv_at hl 1 rfl) ?_
  refine c_get hx hb hts hi1 hown hK hP 0 (by decide) (List.mem_of_getElem? (i := 1) rfl) (v := .ref ar) rfl dX1_entries_3 (fun _ h => h) ?_
  refine lv_astore_n (lv' := [(2, .ref ar), (1, .int 0), (0, .ref ax)]) hx hb dX1_entries_6 rfl hl (by decide) rfl (fun ls hl => ?_)
  refine lv_aload_n hx hb dX1_entries_7 rfl (lv_at hl 0 rfl) ?_
  refine c_alen hx hb hK hP dX1_entries_8 ?_
  refine lv_istore_n (lv' := [(3, .int 32), (2, .ref ar), (1, .int 0), (0, .ref ax)]) hx hb dX1_entries_9 rfl hl (by decide) rfl (fun ls hl => ?_)
  refine lv_iconst (v := 0) hx hb dX1_entries_10 (by decide) ?_
  refine lv_istore (lv' := [(4, .int 0), (3, .int 32), (2, .ref ar), (1, .int 0), (0, .ref ax)]) hx hb dX1_entries_11 hl (by decide) rfl (fun ls hl => ?_)
  have loop : ∀ (n i : Nat) (ls : Array Slot), i ≤ 32 → 32 - i < n → lv_has ls 6 [(0, .ref ax), (1, .int (sumI (eF σ) i)), (2, .ref ar), (3, .int 32), (4, .int (nI i))] → W p l e (headSpec wsX1_entries ({ frames := 1, cells := 0, slots := 0, locals := 30 } : Room)).room s m [.ref ax].toArray below meth c H locs 0 0 (MQ below (va_Qi (fun (r : Int32) (u : St) => r = ents σ ∧ u = σ) (xB D (cT cO) (cW ax ar ad cO) A) A) [.ref ax].toArray s 0 0 A) (F0 m 13 ls []) := by
    intro n
    induction n with
    | zero =>
      intro i ls h1 h2
      exact absurd h2 (by omega)
    | succ n ih =>
      intro i ls hi hn hl
      refine lv_iload hx hb dX1_entries_13 (lv_at hl 4 rfl) ?_
      refine lv_iload_n hx hb dX1_entries_15 rfl (lv_at hl 3 rfl) ?_
      refine x_icmp_ge (tgt := 42) hx hb dX1_entries_16 (by decide) (fun c_1 => ?_) (fun c_1 => ?_)
      · have hi9 : i = 32 := by
          rcases Nat.lt_or_ge i 32 with q | q
          · exact absurd ((nI_lt32 hi).mpr q) c_1
          · omega
        subst hi9
        refine lv_iload_n hx hb dX1_entries_42 rfl (lv_at hl 1 rfl) ?_
        exact x_iret hx hb hr hlocks hK (σ) hP hD hS ⟨rfl, rfl⟩ dX1_entries_43
      · have hlt : i < 32 := (nI_lt32 hi).mp c_1
        refine lv_aload_n hx hb dX1_entries_19 rfl (lv_at hl 2 rfl) ?_
        refine lv_iload hx hb dX1_entries_20 (lv_at hl 4 rfl) ?_
        refine c_aald hx hb hK hP hlt dX1_entries_22 ?_
        refine lv_astore (lv' := [(5, .ref (ad i)), (0, .ref ax), (1, .int (sumI (eF σ) i)), (2, .ref ar), (3, .int 32), (4, .int (nI i))]) hx hb dX1_entries_23 hl (by decide) rfl (fun ls hl => ?_)
        refine lv_aload hx hb dX1_entries_25 (lv_at hl 0 rfl) ?_
        refine s_get hx hb hts hi0 hown hK hE hP hlt 1 (by decide) rfl (v := .int (bI (gB σ 1 i))) rfl dX1_entries_27 (fun _ h => h) ?_
        refine x_ifeq (tgt := 36) hx hb dX1_entries_30 (by decide) (fun c_2 => ?_) (fun c_2 => ?_)
        · refine lv_iinc (v := (nI i) + 1) (lv' := [(4, .int ((nI i) + 1)), (5, .ref (ad i)), (0, .ref ax), (1, .int (sumI (eF σ) i)), (2, .ref ar), (3, .int 32)]) hx hb dX1_entries_36 hl (k := 5) rfl rfl (by decide) rfl (fun ls hl => ?_)
          refine lv_goto (tgt := 13) hx hb dX1_entries_39 (by decide) ?_
          have e9_0 : sumI (eF σ) (i + 1) = sumI (eF σ) i := by simp [sumI, eF, Int32.add_zero, c_1, c_2]
          exact ih (i + 1) ls (by omega) (by omega) (by rw [e9_0, nI_succ]; exact lv_sub hl [2, 3, 4, 5, 0] rfl)
        · refine lv_iinc (v := (sumI (eF σ) i) + 1) (lv' := [(1, .int ((sumI (eF σ) i) + 1)), (5, .ref (ad i)), (0, .ref ax), (2, .ref ar), (3, .int 32), (4, .int (nI i))]) hx hb dX1_entries_33 hl (k := 2) rfl rfl (by decide) rfl (fun ls hl => ?_)
          refine lv_iinc (v := (nI i) + 1) (lv' := [(4, .int ((nI i) + 1)), (1, .int ((sumI (eF σ) i) + 1)), (5, .ref (ad i)), (0, .ref ax), (2, .ref ar), (3, .int 32)]) hx hb dX1_entries_36 hl (k := 5) rfl rfl (by decide) rfl (fun ls hl => ?_)
          refine lv_goto (tgt := 13) hx hb dX1_entries_39 (by decide) ?_
          have e9_0 : sumI (eF σ) (i + 1) = (sumI (eF σ) i) + 1 := by simp [sumI, eF, Int32.add_zero, c_1, c_2]
          exact ih (i + 1) ls (by omega) (by omega) (by rw [e9_0, nI_succ]; exact lv_sub hl [3, 1, 4, 5, 0] rfl)
  exact loop 33 0 _ (Nat.zero_le _) (by decide) (lv_sub hl [4, 3, 2, 1, 0] rfl)
set_option maxHeartbeats 4000000 in
set_option maxRecDepth 100000 in
theorem k_X1_removeAllOver (l : Launch) (D : va_G) (ax ar : Nat) (ad : Nat → Nat) (cO : ClassId) (sz : Nat) (σ : St) : Met l yX1_removeAllOver wsX1_removeAllOver ({ frames := 1, cells := 0, slots := 0, locals := 30 } : Room) (va_Pc [.ref ax] (xPre D (cT cO) xE (cW ax ar ad cO) σ sz)) (va_Qi (fun (r : Int32) (u : St) => r = rmC σ 32 ∧ u = rmO σ) (xB D (cT cO) (cW ax ar ad cO) (va_A (cW ax ar ad cO σ) sz)) (va_A (cW ax ar ad cO σ) sz)) 0 0 (va_A (cW ax ar ad cO σ) sz) := by
  refine xOpen (w := (cW ax ar ad cO)) (σ := σ) (cc := cX1_removeAllOver) (maxL := 6) (ret := some .int) (QQ := fun A => va_Qi (fun (r : Int32) (u : St) => r = rmC σ 32 ∧ u = rmO σ) (xB D (cT cO) (cW ax ar ad cO) A) A) (by decide) rfl (Nat.le_of_ble_eq_true rfl) ?_
  intro p e s m below meth c A hx hb hr hml hown hts hlocks hname hK hE hA hP hD hS ls hl
  have hl : lv_has ls 6 [(0, .ref ax)] := hl
  have hown : s.vm.findClass RX1 = some m.cls := hown
  have hi0 : ∀ w ∈ wsX00, w ∈ wsX1_removeAllOver := (fun _ h => List.mem_cons_of_mem _ (List.mem_append_right _ h))
  have hi1 : ∀ w ∈ wsX10, w ∈ wsX1_removeAllOver := (fun _ h => List.mem_cons_of_mem _ (List.mem_append_left _ (List.mem_append_right _ h)))
  generalize hH : s.heap = H at hP
  have hS : va_S A s.heap H [] := by rw [← hH]; exact va_S.rf
  generalize hlo : ([] : List Loc) = locs at hS
  refine lv_iconst (v := 0) hx hb dX1_removeAllOver_0 (by decide) ?_
  refine lv_istore_n (lv' := [(1, .int 0), (0, .ref ax)]) hx hb dX1_removeAllOver_1 rfl hl (by decide) rfl (fun ls hl => ?_)
  refine lv_aload_n hx hb dX1_removeAllOver_2 rfl (lv_at hl 1 rfl) ?_
  refine c_get hx hb hts hi1 hown hK hP 0 (by decide) (List.mem_of_getElem? (i := 1) rfl) (v := .ref ar) rfl dX1_removeAllOver_3 (fun _ h => h) ?_
  refine lv_astore_n (lv' := [(2, .ref ar), (1, .int 0), (0, .ref ax)]) hx hb dX1_removeAllOver_6 rfl hl (by decide) rfl (fun ls hl => ?_)
  refine lv_aload_n hx hb dX1_removeAllOver_7 rfl (lv_at hl 0 rfl) ?_
  refine c_alen hx hb hK hP dX1_removeAllOver_8 ?_
  refine lv_istore_n (lv' := [(3, .int 32), (2, .ref ar), (1, .int 0), (0, .ref ax)]) hx hb dX1_removeAllOver_9 rfl hl (by decide) rfl (fun ls hl => ?_)
  refine lv_iconst (v := 0) hx hb dX1_removeAllOver_10 (by decide) ?_
  refine lv_istore (lv' := [(4, .int 0), (3, .int 32), (2, .ref ar), (1, .int 0), (0, .ref ax)]) hx hb dX1_removeAllOver_11 hl (by decide) rfl (fun ls hl => ?_)
  have loop : ∀ (n i : Nat) (ls : Array Slot) (H : Heap) (locs : List Loc), i ≤ 32 → 32 - i < n → va_P D vwCl (cW ax ar ad cO (rmS σ i)) H → va_D A (cW ax ar ad cO (rmS σ i)) → va_S A s.heap H locs → lv_has ls 6 [(0, .ref ax), (1, .int (rmC σ i)), (2, .ref ar), (3, .int 32), (4, .int (nI i))] → W p l e (headSpec wsX1_removeAllOver ({ frames := 1, cells := 0, slots := 0, locals := 30 } : Room)).room s m [.ref ax].toArray below meth c H locs 0 0 (MQ below (va_Qi (fun (r : Int32) (u : St) => r = rmC σ 32 ∧ u = rmO σ) (xB D (cT cO) (cW ax ar ad cO) A) A) [.ref ax].toArray s 0 0 A) (F0 m 13 ls []) := by
    intro n
    induction n with
    | zero =>
      intro i ls H locs h1 h2
      exact absurd h2 (by omega)
    | succ n ih =>
      intro i ls H locs hi hn hP hD hS hl
      refine lv_iload hx hb dX1_removeAllOver_13 (lv_at hl 4 rfl) ?_
      refine lv_iload_n hx hb dX1_removeAllOver_15 rfl (lv_at hl 3 rfl) ?_
      refine x_icmp_ge (tgt := 57) hx hb dX1_removeAllOver_16 (by decide) (fun c_1 => ?_) (fun c_1 => ?_)
      · have hi9 : i = 32 := by
          rcases Nat.lt_or_ge i 32 with q | q
          · exact absurd ((nI_lt32 hi).mpr q) c_1
          · omega
        subst hi9
        refine lv_aload_n hx hb dX1_removeAllOver_57 rfl (lv_at hl 0 rfl) ?_
        refine lv_dup hx hb dX1_removeAllOver_58 rfl ?_
        refine c_get hx hb hts hi1 hown hK hP 12 (by decide) (List.mem_of_getElem? (i := 2) rfl) (v := .int (gI (rmS σ 32) 12)) rfl dX1_removeAllOver_59 (fun _ h => h) ?_
        refine lv_iload_n hx hb dX1_removeAllOver_62 rfl (lv_at hl 1 rfl) ?_
        refine lv_iadd hx hb dX1_removeAllOver_63 ?_
        refine c_put hx hb hts hi1 hown hK hP hD hS 12 (by decide) (List.mem_of_getElem? (i := 2) rfl) (v := .int ((gI (rmS σ 32) 12) + (rmC σ 32))) (ty := .int) (uI (rmS σ 32) 12 ((gI (rmS σ 32) 12) + (rmC σ 32))) (cF_uI ar (rmS σ 32) ((gI (rmS σ 32) 12) + (rmC σ 32))).2.2.2.2.2.2 (fun _ => sF_uI _ _ _ _) (by decide) rfl (by decide +kernel) rfl rfl dX1_removeAllOver_64 (fun _ h => h) (fun H locs hP hD hS => ?_)
        refine lv_iload_n hx hb dX1_removeAllOver_67 rfl (lv_at hl 1 rfl) ?_
        exact x_iret hx hb hr hlocks hK (uI (rmS σ 32) 12 ((gI (rmS σ 32) 12) + (rmC σ 32))) hP hD hS ⟨rfl, rfl⟩ dX1_removeAllOver_68
      · have hlt : i < 32 := (nI_lt32 hi).mp c_1
        refine lv_aload_n hx hb dX1_removeAllOver_19 rfl (lv_at hl 2 rfl) ?_
        refine lv_iload hx hb dX1_removeAllOver_20 (lv_at hl 4 rfl) ?_
        refine c_aald hx hb hK hP hlt dX1_removeAllOver_22 ?_
        refine lv_astore (lv' := [(5, .ref (ad i)), (0, .ref ax), (1, .int (rmC σ i)), (2, .ref ar), (3, .int 32), (4, .int (nI i))]) hx hb dX1_removeAllOver_23 hl (by decide) rfl (fun ls hl => ?_)
        refine lv_aload hx hb dX1_removeAllOver_25 (lv_at hl 0 rfl) ?_
        refine s_get hx hb hts hi0 hown hK hE hP hlt 1 (by decide) rfl (v := .int (bI (gB (rmS σ i) 1 i))) rfl dX1_removeAllOver_27 (fun _ h => h) ?_
        refine x_ifeq (tgt := 51) hx hb dX1_removeAllOver_30 (by decide) (fun c_2 => ?_) (fun c_2 => ?_)
        · refine lv_iinc (v := (nI i) + 1) (lv' := [(4, .int ((nI i) + 1)), (5, .ref (ad i)), (0, .ref ax), (1, .int (rmC σ i)), (2, .ref ar), (3, .int 32)]) hx hb dX1_removeAllOver_51 hl (k := 5) rfl rfl (by decide) rfl (fun ls hl => ?_)
          refine lv_goto (tgt := 13) hx hb dX1_removeAllOver_54 (by decide) ?_
          have e9_0 : rmS σ (i + 1) = rmS σ i := by simp [rmS, c_1, c_2]
          have e9_1 : rmC σ (i + 1) = rmC σ i := by simp [rmC, c_1, c_2]
          exact ih (i + 1) ls H locs (by omega) (by omega) (by rw [e9_0]; exact hP) (by rw [e9_0]; exact hD) hS (by rw [e9_1, nI_succ]; exact lv_sub hl [2, 3, 4, 5, 0] rfl)
        · refine lv_aload_n hx hb dX1_removeAllOver_33 rfl (lv_at hl 1 rfl) ?_
          refine lv_aload hx hb dX1_removeAllOver_34 (lv_at hl 0 rfl) ?_
          refine x_calli (va_runV (As := [.ref (ad i)]) (rest := []) ⟨hx, hb, hml, hown, hts⟩ (k_X1_hasEnded l D ax ar ad cO H.size (rmS σ i) hlt) (cwV 1 hts gX1_removeAllOver_X1_hasEnded rfl rfl rfl (by decide +kernel) ⟨Nat.le_of_ble_eq_true rfl, Nat.le_of_ble_eq_true rfl⟩) (xPreV xE_ok hE hK hA hP hD hS (q0 := 0) (ci := 1) rfl rfl rfl) rfl rfl hl.1 rfl (lv_room (Nat.le_of_ble_eq_true rfl)) dX1_removeAllOver_36 ⟨Nat.le_of_ble_eq_true rfl, Nat.le_of_ble_eq_true rfl⟩) hD hS hA (fun r u H locs hp hP hD hS => ?_)
          obtain ⟨rfl, hu9⟩ := hp
          rw [hu9] at hP hD
          refine x_ifeq (tgt := 51) hx hb dX1_removeAllOver_39 (by decide) (fun c_3 => ?_) (fun c_3 => ?_)
          · refine lv_iinc (v := (nI i) + 1) (lv' := [(4, .int ((nI i) + 1)), (5, .ref (ad i)), (0, .ref ax), (1, .int (rmC σ i)), (2, .ref ar), (3, .int 32)]) hx hb dX1_removeAllOver_51 hl (k := 5) rfl rfl (by decide) rfl (fun ls hl => ?_)
            refine lv_goto (tgt := 13) hx hb dX1_removeAllOver_54 (by decide) ?_
            have e9_0 : rmS σ (i + 1) = rmS σ i := by simp [rmS, c_1, c_2, c_3]
            have e9_1 : rmC σ (i + 1) = rmC σ i := by simp [rmC, c_1, c_2, c_3]
            exact ih (i + 1) ls H locs (by omega) (by omega) (by rw [e9_0]; exact hP) (by rw [e9_0]; exact hD) hS (by rw [e9_1, nI_succ]; exact lv_sub hl [2, 3, 4, 5, 0] rfl)
          · refine lv_aload hx hb dX1_removeAllOver_42 (lv_at hl 0 rfl) ?_
            refine lv_iconst (v := 0) hx hb dX1_removeAllOver_44 (by decide) ?_
            refine s_put hx hb hts hi0 hown hK hE hP hD hS hlt 1 (by decide) rfl (v := .int (bI false)) (ty := .boolean) (uB (rmS σ i) 1 i false) ((sF_self (rmS σ i) i).2.2.2.2.2.2.1 _) (fun i9 hi9 => (sF_other (rmS σ i) hi9).2.2.2.2.2.2.1 _) (cF_uB _ _ _ _ _) rfl (by decide +kernel) (bI_nar _) (bI_fit _) dX1_removeAllOver_45 (fun _ h => h) (fun H locs hP hD hS => ?_)
            refine lv_iinc (v := (rmC σ i) + 1) (lv' := [(1, .int ((rmC σ i) + 1)), (5, .ref (ad i)), (0, .ref ax), (2, .ref ar), (3, .int 32), (4, .int (nI i))]) hx hb dX1_removeAllOver_48 hl (k := 2) rfl rfl (by decide) rfl (fun ls hl => ?_)
            refine lv_iinc (v := (nI i) + 1) (lv' := [(4, .int ((nI i) + 1)), (1, .int ((rmC σ i) + 1)), (5, .ref (ad i)), (0, .ref ax), (2, .ref ar), (3, .int 32)]) hx hb dX1_removeAllOver_51 hl (k := 5) rfl rfl (by decide) rfl (fun ls hl => ?_)
            refine lv_goto (tgt := 13) hx hb dX1_removeAllOver_54 (by decide) ?_
            have e9_0 : rmS σ (i + 1) = uB (rmS σ i) 1 i false := by simp [rmS, c_1, c_2, c_3]
            have e9_1 : rmC σ (i + 1) = (rmC σ i) + 1 := by simp [rmC, c_1, c_2, c_3]
            exact ih (i + 1) ls H locs (by omega) (by omega) (by rw [e9_0]; exact hP) (by rw [e9_0]; exact hD) hS (by rw [e9_1, nI_succ]; exact lv_sub hl [3, 1, 4, 5, 0] rfl)
  exact loop 33 0 _ _ _ (Nat.zero_le _) (by decide) hP hD hS (lv_sub hl [4, 3, 2, 1, 0] rfl)
set_option maxHeartbeats 4000000 in
set_option maxRecDepth 100000 in
theorem k_X1_nextInOrder (l : Launch) (D : va_G) (ax ar : Nat) (ad : Nat → Nat) (cO : ClassId) (sz : Nat) (σ : St) (b : Option Nat) (hb32 : ∀ k, b = some k → k < 32) : Met l yX1_nextInOrder wsX1_nextInOrder ({ frames := 1, cells := 0, slots := 0, locals := 30 } : Room) (va_Pc [.ref ax, va_rf ((b).map ad)] (xPre D (cT cO) xE (cW ax ar ad cO) σ sz)) (va_Qq (fun (r : Option Nat) (u : St) => r = (nxt σ b).map ad ∧ u = σ) (xB D (cT cO) (cW ax ar ad cO) (va_A (cW ax ar ad cO σ) sz)) (va_A (cW ax ar ad cO σ) sz)) 0 0 (va_A (cW ax ar ad cO σ) sz) := by
  refine xOpen (w := (cW ax ar ad cO)) (σ := σ) (cc := cX1_nextInOrder) (maxL := 8) (ret := some (.object "WorthCache$Slot")) (QQ := fun A => va_Qq (fun (r : Option Nat) (u : St) => r = (nxt σ b).map ad ∧ u = σ) (xB D (cT cO) (cW ax ar ad cO) A) A) (by decide) rfl (by cases b <;> exact Nat.le_of_ble_eq_true rfl) ?_
  intro p e s m below meth c A hx hb hr hml hown hts hlocks hname hK hE hA hP hD hS ls hl
  have hl : lv_has ls 8 [(0, .ref ax), (1, va_rf ((b).map ad))] := hl
  have hown : s.vm.findClass RX1 = some m.cls := hown
  have hi0 : ∀ w ∈ wsX00, w ∈ wsX1_nextInOrder := (fun _ h => List.mem_cons_of_mem _ (List.mem_append_right _ h))
  have hi1 : ∀ w ∈ wsX10, w ∈ wsX1_nextInOrder := (fun _ h => List.mem_cons_of_mem _ (List.mem_append_left _ (List.mem_append_right _ h)))
  generalize hH : s.heap = H at hP
  have hS : va_S A s.heap H [] := by rw [← hH]; exact va_S.rf
  generalize hlo : ([] : List Loc) = locs at hS
  refine lv_null hx hb dX1_nextInOrder_0 ?_
  refine lv_astore_nN (lv' := [(2, .null), (0, .ref ax), (1, va_rf ((b).map ad))]) hx hb dX1_nextInOrder_1 rfl hl (by decide) (by cases (b) <;> rfl) (fun ls hl => ?_)
  refine lv_aload_n hx hb dX1_nextInOrder_2 rfl (lv_at hl 1 rfl) ?_
  refine c_get hx hb hts hi1 hown hK hP 0 (by decide) (List.mem_of_getElem? (i := 1) rfl) (v := .ref ar) rfl dX1_nextInOrder_3 (fun _ h => h) ?_
  refine lv_astore_n (lv' := [(3, .ref ar), (2, .null), (0, .ref ax), (1, va_rf ((b).map ad))]) hx hb dX1_nextInOrder_6 rfl hl (by decide) rfl (fun ls hl => ?_)
  refine lv_aload_n hx hb dX1_nextInOrder_7 rfl (lv_at hl 0 rfl) ?_
  refine c_alen hx hb hK hP dX1_nextInOrder_8 ?_
  refine lv_istore (lv' := [(4, .int 32), (3, .ref ar), (2, .null), (0, .ref ax), (1, va_rf ((b).map ad))]) hx hb dX1_nextInOrder_9 hl (by decide) rfl (fun ls hl => ?_)
  refine lv_iconst (v := 0) hx hb dX1_nextInOrder_11 (by decide) ?_
  refine lv_istore (lv' := [(5, .int 0), (4, .int 32), (3, .ref ar), (2, .null), (0, .ref ax), (1, va_rf ((b).map ad))]) hx hb dX1_nextInOrder_12 hl (by decide) rfl (fun ls hl => ?_)
  have loop : ∀ (n i : Nat) (ls : Array Slot) (H : Heap) (locs : List Loc), i ≤ 32 → 32 - i < n → va_P D vwCl (cW ax ar ad cO (σ)) H → va_D A (cW ax ar ad cO (σ)) → va_S A s.heap H locs → lv_has ls 8 [(0, .ref ax), (1, va_rf ((b).map ad)), (2, va_rf ((nxtR σ b i).map ad)), (3, .ref ar), (4, .int 32), (5, .int (nI i))] → W p l e (headSpec wsX1_nextInOrder ({ frames := 1, cells := 0, slots := 0, locals := 30 } : Room)).room s m [.ref ax, va_rf ((b).map ad)].toArray below meth c H locs 0 0 (MQ below (va_Qq (fun (r : Option Nat) (u : St) => r = (nxt σ b).map ad ∧ u = σ) (xB D (cT cO) (cW ax ar ad cO) A) A) [.ref ax, va_rf ((b).map ad)].toArray s 0 0 A) (F0 m 14 ls []) := by
    intro n
    induction n with
    | zero =>
      intro i ls H locs h1 h2
      exact absurd h2 (by omega)
    | succ n ih =>
      intro i ls H locs hi hn hP hD hS hl
      refine lv_iload hx hb dX1_nextInOrder_14 (lv_at hl 5 rfl) ?_
      refine lv_iload hx hb dX1_nextInOrder_16 (lv_at hl 4 rfl) ?_
      refine x_icmp_ge (tgt := 82) hx hb dX1_nextInOrder_18 (by decide) (fun c_1 => ?_) (fun c_1 => ?_)
      · have hi9 : i = 32 := by
          rcases Nat.lt_or_ge i 32 with q | q
          · exact absurd ((nI_lt32 hi).mpr q) c_1
          · omega
        subst hi9
        refine x_aload_nQ hx hb dX1_nextInOrder_82 rfl (lv_at hl 2 rfl) ?_
        exact x_qret (r := (nxtR σ b 32).map ad) hx hb hr hlocks hK (σ) hP hD hS ⟨rfl, rfl⟩ dX1_nextInOrder_83
      · have hlt : i < 32 := (nI_lt32 hi).mp c_1
        refine lv_aload_n hx hb dX1_nextInOrder_21 rfl (lv_at hl 3 rfl) ?_
        refine lv_iload hx hb dX1_nextInOrder_22 (lv_at hl 5 rfl) ?_
        refine c_aald hx hb hK hP hlt dX1_nextInOrder_24 ?_
        refine lv_astore (lv' := [(6, .ref (ad i)), (0, .ref ax), (1, va_rf ((b).map ad)), (2, va_rf ((nxtR σ b i).map ad)), (3, .ref ar), (4, .int 32), (5, .int (nI i))]) hx hb dX1_nextInOrder_25 hl (by decide) rfl (fun ls hl => ?_)
        refine x_aload_nQ hx hb dX1_nextInOrder_27 rfl (lv_at hl 2 rfl) ?_
        refine x_ifnullQ (tgt := 40) hx hb dX1_nextInOrder_28 (by decide) (fun c_2 => ?_) (fun k_3 c_2 => ?_)
        · refine lv_iconst (v := 1) hx hb dX1_nextInOrder_40 (by decide) ?_
          refine lv_goto (tgt := 45) hx hb dX1_nextInOrder_41 (by decide) ?_
          refine lv_istore (lv' := [(7, .int 1), (6, .ref (ad i)), (0, .ref ax), (1, va_rf ((b).map ad)), (2, va_rf ((nxtR σ b i).map ad)), (3, .ref ar), (4, .int 32), (5, .int (nI i))]) hx hb dX1_nextInOrder_45 hl (by decide) rfl (fun ls hl => ?_)
          refine lv_aload hx hb dX1_nextInOrder_47 (lv_at hl 1 rfl) ?_
          refine x_calli (va_runS (As := [.ref (ad i)]) (rest := []) ⟨hx, hb, hml, hown, hts⟩ (k_X1_isInOrder l D ax ar ad cO H.size σ hlt) (va_cwS 1 hts gX1_nextInOrder_X1_isInOrder rfl rfl rfl (by decide +kernel) ⟨Nat.le_of_ble_eq_true rfl, Nat.le_of_ble_eq_true rfl⟩) (xPreS xE_ok hE hK hA hP hD hS) rfl rfl hl.1 rfl (lv_room (Nat.le_of_ble_eq_true rfl)) dX1_nextInOrder_49 ⟨Nat.le_of_ble_eq_true rfl, Nat.le_of_ble_eq_true rfl⟩) hD hS hA (fun r u H locs hp hP hD hS => ?_)
          obtain ⟨rfl, hu9⟩ := hp
          rw [hu9] at hP hD
          refine x_ifeq (tgt := 76) hx hb dX1_nextInOrder_52 (by decide) (fun c_4 => ?_) (fun c_4 => ?_)
          · refine lv_iinc (v := (nI i) + 1) (lv' := [(5, .int ((nI i) + 1)), (7, .int 1), (6, .ref (ad i)), (0, .ref ax), (1, va_rf ((b).map ad)), (2, va_rf ((nxtR σ b i).map ad)), (3, .ref ar), (4, .int 32)]) hx hb dX1_nextInOrder_76 hl (k := 7) rfl rfl (by decide) rfl (fun ls hl => ?_)
            refine lv_goto (tgt := 14) hx hb dX1_nextInOrder_79 (by decide) ?_
            have e9_0 : nxtR σ b (i + 1) = nxtR σ b i := by rw [nxtR_s]; simp [beh, befO, c_1, c_2, c_4]
            exact ih (i + 1) ls H locs (by omega) (by omega) hP hD hS (by rw [e9_0, nI_succ]; exact lv_sub hl [3, 4, 5, 6, 7, 0] rfl)
          · refine lv_iload hx hb dX1_nextInOrder_55 (lv_at hl 0 rfl) ?_
            refine lv_if_eq (tgt := 76) hx hb dX1_nextInOrder_57 (by decide) (fun c_5 => absurd c_5 (by decide)) (fun _ => ?_)
            refine x_aload_nQ hx hb dX1_nextInOrder_60 rfl (lv_at hl 4 rfl) ?_
            refine x_ifnullQ (tgt := 73) hx hb dX1_nextInOrder_61 (by decide) (fun c_6 => ?_) (fun k_7 c_6 => ?_)
            · refine lv_aload hx hb dX1_nextInOrder_73 (lv_at hl 1 rfl) ?_
              refine lv_astore_n (lv' := [(2, .ref (ad i)), (7, .int 1), (6, .ref (ad i)), (0, .ref ax), (1, va_rf ((b).map ad)), (3, .ref ar), (4, .int 32), (5, .int (nI i))]) hx hb dX1_nextInOrder_75 rfl hl (by decide) (by cases (b) <;> rfl) (fun ls hl => ?_)
              refine lv_iinc (v := (nI i) + 1) (lv' := [(5, .int ((nI i) + 1)), (2, .ref (ad i)), (7, .int 1), (6, .ref (ad i)), (0, .ref ax), (1, va_rf ((b).map ad)), (3, .ref ar), (4, .int 32)]) hx hb dX1_nextInOrder_76 hl (k := 7) rfl rfl (by decide) rfl (fun ls hl => ?_)
              refine lv_goto (tgt := 14) hx hb dX1_nextInOrder_79 (by decide) ?_
              have e9_0 : nxtR σ b (i + 1) = some i := by rw [nxtR_s, c_6]; simp [beh, befO, c_1, c_2, c_4]
              exact ih (i + 1) ls H locs (by omega) (by omega) hP hD hS (by rw [e9_0, nI_succ]; exact lv_sub hl [4, 5, 1, 6, 7, 0] rfl)
            · have hk_7 : k_7 < 32 := Nat.lt_trans (nxtR_lt _ _ _ _ c_6) hlt
              refine lv_aload hx hb dX1_nextInOrder_64 (lv_at hl 1 rfl) ?_
              refine x_aload_nQ hx hb dX1_nextInOrder_66 rfl (lv_at hl 4 rfl) ?_
              refine W.eq (g2 := F0 m 67 ls [.ref (ad k_7), .ref (ad i)]) (by rw [c_6]; rfl) ?_
              refine x_calli (va_runS (As := [.ref (ad i), .ref (ad k_7)]) (rest := []) ⟨hx, hb, hml, hown, hts⟩ (k_X1_leavesBefore l D ax ar ad cO H.size σ hlt hk_7) (va_cwS 2 hts gX1_nextInOrder_X1_leavesBefore rfl rfl rfl (by decide +kernel) ⟨Nat.le_of_ble_eq_true rfl, Nat.le_of_ble_eq_true rfl⟩) (xPreS xE_ok hE hK hA hP hD hS) rfl rfl hl.1 rfl (lv_room (Nat.le_of_ble_eq_true rfl)) dX1_nextInOrder_67 ⟨Nat.le_of_ble_eq_true rfl, Nat.le_of_ble_eq_true rfl⟩) hD hS hA (fun r u H locs hp hP hD hS => ?_)
              obtain ⟨rfl, hu9⟩ := hp
              rw [hu9] at hP hD
              refine x_ifeq (tgt := 76) hx hb dX1_nextInOrder_70 (by decide) (fun c_8 => ?_) (fun c_8 => ?_)
              · refine lv_iinc (v := (nI i) + 1) (lv' := [(5, .int ((nI i) + 1)), (7, .int 1), (6, .ref (ad i)), (0, .ref ax), (1, va_rf ((b).map ad)), (2, va_rf ((nxtR σ b i).map ad)), (3, .ref ar), (4, .int 32)]) hx hb dX1_nextInOrder_76 hl (k := 7) rfl rfl (by decide) rfl (fun ls hl => ?_)
                refine lv_goto (tgt := 14) hx hb dX1_nextInOrder_79 (by decide) ?_
                have e9_0 : nxtR σ b (i + 1) = nxtR σ b i := by rw [nxtR_s, c_6]; simp [beh, befO, c_1, c_2, c_4, c_8]
                exact ih (i + 1) ls H locs (by omega) (by omega) hP hD hS (by rw [e9_0, nI_succ]; exact lv_sub hl [3, 4, 5, 6, 7, 0] rfl)
              · refine lv_aload hx hb dX1_nextInOrder_73 (lv_at hl 1 rfl) ?_
                refine lv_astore_n (lv' := [(2, .ref (ad i)), (7, .int 1), (6, .ref (ad i)), (0, .ref ax), (1, va_rf ((b).map ad)), (3, .ref ar), (4, .int 32), (5, .int (nI i))]) hx hb dX1_nextInOrder_75 rfl hl (by decide) (by cases (b) <;> rfl) (fun ls hl => ?_)
                refine lv_iinc (v := (nI i) + 1) (lv' := [(5, .int ((nI i) + 1)), (2, .ref (ad i)), (7, .int 1), (6, .ref (ad i)), (0, .ref ax), (1, va_rf ((b).map ad)), (3, .ref ar), (4, .int 32)]) hx hb dX1_nextInOrder_76 hl (k := 7) rfl rfl (by decide) rfl (fun ls hl => ?_)
                refine lv_goto (tgt := 14) hx hb dX1_nextInOrder_79 (by decide) ?_
                have e9_0 : nxtR σ b (i + 1) = some i := by rw [nxtR_s, c_6]; simp [beh, befO, c_1, c_2, c_4, c_8]
                exact ih (i + 1) ls H locs (by omega) (by omega) hP hD hS (by rw [e9_0, nI_succ]; exact lv_sub hl [4, 5, 1, 6, 7, 0] rfl)
        · have hk_3 : k_3 < 32 := hb32 _ c_2
          refine x_aload_nQ hx hb dX1_nextInOrder_31 rfl (lv_at hl 2 rfl) ?_
          refine W.eq (g2 := F0 m 32 ls [.ref (ad k_3)]) (by rw [c_2]; rfl) ?_
          refine lv_aload hx hb dX1_nextInOrder_32 (lv_at hl 0 rfl) ?_
          refine x_calli (va_runS (As := [.ref (ad k_3), .ref (ad i)]) (rest := []) ⟨hx, hb, hml, hown, hts⟩ (k_X1_leavesBefore l D ax ar ad cO H.size σ hk_3 hlt) (va_cwS 2 hts gX1_nextInOrder_X1_leavesBefore rfl rfl rfl (by decide +kernel) ⟨Nat.le_of_ble_eq_true rfl, Nat.le_of_ble_eq_true rfl⟩) (xPreS xE_ok hE hK hA hP hD hS) rfl rfl hl.1 rfl (lv_room (Nat.le_of_ble_eq_true rfl)) dX1_nextInOrder_34 ⟨Nat.le_of_ble_eq_true rfl, Nat.le_of_ble_eq_true rfl⟩) hD hS hA (fun r u H locs hp hP hD hS => ?_)
          obtain ⟨rfl, hu9⟩ := hp
          rw [hu9] at hP hD
          refine x_ifeq (tgt := 44) hx hb dX1_nextInOrder_37 (by decide) (fun c_9 => ?_) (fun c_9 => ?_)
          · refine lv_iconst (v := 0) hx hb dX1_nextInOrder_44 (by decide) ?_
            refine lv_istore (lv' := [(7, .int 0), (6, .ref (ad i)), (0, .ref ax), (1, va_rf ((b).map ad)), (2, va_rf ((nxtR σ b i).map ad)), (3, .ref ar), (4, .int 32), (5, .int (nI i))]) hx hb dX1_nextInOrder_45 hl (by decide) rfl (fun ls hl => ?_)
            refine lv_aload hx hb dX1_nextInOrder_47 (lv_at hl 1 rfl) ?_
            refine x_calli (va_runS (As := [.ref (ad i)]) (rest := []) ⟨hx, hb, hml, hown, hts⟩ (k_X1_isInOrder l D ax ar ad cO H.size σ hlt) (va_cwS 1 hts gX1_nextInOrder_X1_isInOrder rfl rfl rfl (by decide +kernel) ⟨Nat.le_of_ble_eq_true rfl, Nat.le_of_ble_eq_true rfl⟩) (xPreS xE_ok hE hK hA hP hD hS) rfl rfl hl.1 rfl (lv_room (Nat.le_of_ble_eq_true rfl)) dX1_nextInOrder_49 ⟨Nat.le_of_ble_eq_true rfl, Nat.le_of_ble_eq_true rfl⟩) hD hS hA (fun r u H locs hp hP hD hS => ?_)
            obtain ⟨rfl, hu9⟩ := hp
            rw [hu9] at hP hD
            refine x_ifeq (tgt := 76) hx hb dX1_nextInOrder_52 (by decide) (fun c_10 => ?_) (fun c_10 => ?_)
            · refine lv_iinc (v := (nI i) + 1) (lv' := [(5, .int ((nI i) + 1)), (7, .int 0), (6, .ref (ad i)), (0, .ref ax), (1, va_rf ((b).map ad)), (2, va_rf ((nxtR σ b i).map ad)), (3, .ref ar), (4, .int 32)]) hx hb dX1_nextInOrder_76 hl (k := 7) rfl rfl (by decide) rfl (fun ls hl => ?_)
              refine lv_goto (tgt := 14) hx hb dX1_nextInOrder_79 (by decide) ?_
              have e9_0 : nxtR σ b (i + 1) = nxtR σ b i := by rw [nxtR_s]; simp [beh, befO, c_1, c_2, c_9, c_10]
              exact ih (i + 1) ls H locs (by omega) (by omega) hP hD hS (by rw [e9_0, nI_succ]; exact lv_sub hl [3, 4, 5, 6, 7, 0] rfl)
            · refine lv_iload hx hb dX1_nextInOrder_55 (lv_at hl 0 rfl) ?_
              refine lv_if_eq (tgt := 76) hx hb dX1_nextInOrder_57 (by decide) (fun _ => ?_) (fun c_11 => absurd (by decide) c_11)
              refine lv_iinc (v := (nI i) + 1) (lv' := [(5, .int ((nI i) + 1)), (7, .int 0), (6, .ref (ad i)), (0, .ref ax), (1, va_rf ((b).map ad)), (2, va_rf ((nxtR σ b i).map ad)), (3, .ref ar), (4, .int 32)]) hx hb dX1_nextInOrder_76 hl (k := 7) rfl rfl (by decide) rfl (fun ls hl => ?_)
              refine lv_goto (tgt := 14) hx hb dX1_nextInOrder_79 (by decide) ?_
              have e9_0 : nxtR σ b (i + 1) = nxtR σ b i := by rw [nxtR_s]; simp [beh, befO, c_1, c_2, c_9, c_10]
              exact ih (i + 1) ls H locs (by omega) (by omega) hP hD hS (by rw [e9_0, nI_succ]; exact lv_sub hl [3, 4, 5, 6, 7, 0] rfl)
          · refine lv_iconst (v := 1) hx hb dX1_nextInOrder_40 (by decide) ?_
            refine lv_goto (tgt := 45) hx hb dX1_nextInOrder_41 (by decide) ?_
            refine lv_istore (lv' := [(7, .int 1), (6, .ref (ad i)), (0, .ref ax), (1, va_rf ((b).map ad)), (2, va_rf ((nxtR σ b i).map ad)), (3, .ref ar), (4, .int 32), (5, .int (nI i))]) hx hb dX1_nextInOrder_45 hl (by decide) rfl (fun ls hl => ?_)
            refine lv_aload hx hb dX1_nextInOrder_47 (lv_at hl 1 rfl) ?_
            refine x_calli (va_runS (As := [.ref (ad i)]) (rest := []) ⟨hx, hb, hml, hown, hts⟩ (k_X1_isInOrder l D ax ar ad cO H.size σ hlt) (va_cwS 1 hts gX1_nextInOrder_X1_isInOrder rfl rfl rfl (by decide +kernel) ⟨Nat.le_of_ble_eq_true rfl, Nat.le_of_ble_eq_true rfl⟩) (xPreS xE_ok hE hK hA hP hD hS) rfl rfl hl.1 rfl (lv_room (Nat.le_of_ble_eq_true rfl)) dX1_nextInOrder_49 ⟨Nat.le_of_ble_eq_true rfl, Nat.le_of_ble_eq_true rfl⟩) hD hS hA (fun r u H locs hp hP hD hS => ?_)
            obtain ⟨rfl, hu9⟩ := hp
            rw [hu9] at hP hD
            refine x_ifeq (tgt := 76) hx hb dX1_nextInOrder_52 (by decide) (fun c_12 => ?_) (fun c_12 => ?_)
            · refine lv_iinc (v := (nI i) + 1) (lv' := [(5, .int ((nI i) + 1)), (7, .int 1), (6, .ref (ad i)), (0, .ref ax), (1, va_rf ((b).map ad)), (2, va_rf ((nxtR σ b i).map ad)), (3, .ref ar), (4, .int 32)]) hx hb dX1_nextInOrder_76 hl (k := 7) rfl rfl (by decide) rfl (fun ls hl => ?_)
              refine lv_goto (tgt := 14) hx hb dX1_nextInOrder_79 (by decide) ?_
              have e9_0 : nxtR σ b (i + 1) = nxtR σ b i := by rw [nxtR_s]; simp [beh, befO, c_1, c_2, c_9, c_12]
              exact ih (i + 1) ls H locs (by omega) (by omega) hP hD hS (by rw [e9_0, nI_succ]; exact lv_sub hl [3, 4, 5, 6, 7, 0] rfl)
            · refine lv_iload hx hb dX1_nextInOrder_55 (lv_at hl 0 rfl) ?_
              refine lv_if_eq (tgt := 76) hx hb dX1_nextInOrder_57 (by decide) (fun c_13 => absurd c_13 (by decide)) (fun _ => ?_)
              refine x_aload_nQ hx hb dX1_nextInOrder_60 rfl (lv_at hl 4 rfl) ?_
              refine x_ifnullQ (tgt := 73) hx hb dX1_nextInOrder_61 (by decide) (fun c_14 => ?_) (fun k_15 c_14 => ?_)
              · refine lv_aload hx hb dX1_nextInOrder_73 (lv_at hl 1 rfl) ?_
                refine lv_astore_n (lv' := [(2, .ref (ad i)), (7, .int 1), (6, .ref (ad i)), (0, .ref ax), (1, va_rf ((b).map ad)), (3, .ref ar), (4, .int 32), (5, .int (nI i))]) hx hb dX1_nextInOrder_75 rfl hl (by decide) (by cases (b) <;> rfl) (fun ls hl => ?_)
                refine lv_iinc (v := (nI i) + 1) (lv' := [(5, .int ((nI i) + 1)), (2, .ref (ad i)), (7, .int 1), (6, .ref (ad i)), (0, .ref ax), (1, va_rf ((b).map ad)), (3, .ref ar), (4, .int 32)]) hx hb dX1_nextInOrder_76 hl (k := 7) rfl rfl (by decide) rfl (fun ls hl => ?_)
                refine lv_goto (tgt := 14) hx hb dX1_nextInOrder_79 (by decide) ?_
                have e9_0 : nxtR σ b (i + 1) = some i := by rw [nxtR_s, c_14]; simp [beh, befO, c_1, c_2, c_9, c_12]
                exact ih (i + 1) ls H locs (by omega) (by omega) hP hD hS (by rw [e9_0, nI_succ]; exact lv_sub hl [4, 5, 1, 6, 7, 0] rfl)
              · have hk_15 : k_15 < 32 := Nat.lt_trans (nxtR_lt _ _ _ _ c_14) hlt
                refine lv_aload hx hb dX1_nextInOrder_64 (lv_at hl 1 rfl) ?_
                refine x_aload_nQ hx hb dX1_nextInOrder_66 rfl (lv_at hl 4 rfl) ?_
                refine W.eq (g2 := F0 m 67 ls [.ref (ad k_15), .ref (ad i)]) (by rw [c_14]; rfl) ?_
                refine x_calli (va_runS (As := [.ref (ad i), .ref (ad k_15)]) (rest := []) ⟨hx, hb, hml, hown, hts⟩ (k_X1_leavesBefore l D ax ar ad cO H.size σ hlt hk_15) (va_cwS 2 hts gX1_nextInOrder_X1_leavesBefore rfl rfl rfl (by decide +kernel) ⟨Nat.le_of_ble_eq_true rfl, Nat.le_of_ble_eq_true rfl⟩) (xPreS xE_ok hE hK hA hP hD hS) rfl rfl hl.1 rfl (lv_room (Nat.le_of_ble_eq_true rfl)) dX1_nextInOrder_67 ⟨Nat.le_of_ble_eq_true rfl, Nat.le_of_ble_eq_true rfl⟩) hD hS hA (fun r u H locs hp hP hD hS => ?_)
                obtain ⟨rfl, hu9⟩ := hp
                rw [hu9] at hP hD
                refine x_ifeq (tgt := 76) hx hb dX1_nextInOrder_70 (by decide) (fun c_16 => ?_) (fun c_16 => ?_)
                · refine lv_iinc (v := (nI i) + 1) (lv' := [(5, .int ((nI i) + 1)), (7, .int 1), (6, .ref (ad i)), (0, .ref ax), (1, va_rf ((b).map ad)), (2, va_rf ((nxtR σ b i).map ad)), (3, .ref ar), (4, .int 32)]) hx hb dX1_nextInOrder_76 hl (k := 7) rfl rfl (by decide) rfl (fun ls hl => ?_)
                  refine lv_goto (tgt := 14) hx hb dX1_nextInOrder_79 (by decide) ?_
                  have e9_0 : nxtR σ b (i + 1) = nxtR σ b i := by rw [nxtR_s, c_14]; simp [beh, befO, c_1, c_2, c_9, c_12, c_16]
                  exact ih (i + 1) ls H locs (by omega) (by omega) hP hD hS (by rw [e9_0, nI_succ]; exact lv_sub hl [3, 4, 5, 6, 7, 0] rfl)
                · refine lv_aload hx hb dX1_nextInOrder_73 (lv_at hl 1 rfl) ?_
                  refine lv_astore_n (lv' := [(2, .ref (ad i)), (7, .int 1), (6, .ref (ad i)), (0, .ref ax), (1, va_rf ((b).map ad)), (3, .ref ar), (4, .int 32), (5, .int (nI i))]) hx hb dX1_nextInOrder_75 rfl hl (by decide) (by cases (b) <;> rfl) (fun ls hl => ?_)
                  refine lv_iinc (v := (nI i) + 1) (lv' := [(5, .int ((nI i) + 1)), (2, .ref (ad i)), (7, .int 1), (6, .ref (ad i)), (0, .ref ax), (1, va_rf ((b).map ad)), (3, .ref ar), (4, .int 32)]) hx hb dX1_nextInOrder_76 hl (k := 7) rfl rfl (by decide) rfl (fun ls hl => ?_)
                  refine lv_goto (tgt := 14) hx hb dX1_nextInOrder_79 (by decide) ?_
                  have e9_0 : nxtR σ b (i + 1) = some i := by rw [nxtR_s, c_14]; simp [beh, befO, c_1, c_2, c_9, c_12, c_16]
                  exact ih (i + 1) ls H locs (by omega) (by omega) hP hD hS (by rw [e9_0, nI_succ]; exact lv_sub hl [4, 5, 1, 6, 7, 0] rfl)
  exact loop 33 0 _ _ _ (Nat.zero_le _) (by decide) hP hD hS (lv_sub hl [4, 5, 3, 2, 1, 0] rfl)
