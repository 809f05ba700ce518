set_option maxHeartbeats 4000000 in
set_option maxRecDepth 100000 in
theorem k_X1_used (l : Launch) (D : va_G) (ax ar : Nat) (ad : Nat → Nat) (cO : ClassId) (sz : Nat) (σ : St) : Met l yX1_used wsX1_used ({ frames := 1, cells := 0, slots := 0, locals := 30 } : Room) (va_Pc [.ref ax] (xPre D (cT cO) xE (cW ax ar ad cO) σ sz)) (va_Qi (fun (r : Int32) (u : St) => r = used σ ∧ u = σ) (xB D (cT cO) (cW ax ar ad cO) (va_A (cW ax ar ad cO σ) sz)) (va_A (cW ax ar ad cO σ) sz)) 0 0 (va_A (cW ax ar ad cO σ) sz) := by
  refine xOpen (w := (cW ax ar ad cO)) (σ := σ) (cc := cX1_used) (maxL := 6) (ret := some .int) (QQ := fun A => va_Qi (fun (r : Int32) (u : St) => r = used σ ∧ u = σ) (xB D (cT cO) (cW ax ar ad cO) A) A) (by decide) rfl (Nat.le_of_ble_eq_true rfl) ?_
  intro p e s m below meth c A hx hb hr hml hown hts hlocks hname hK hE hA hP hD hS ls hl
  have hl : lv_has ls 6 [(0, .ref ax)] := hl
  have hown : s.vm.findClass RX1 = some m.cls := hown
  have hi0 : ∀ w ∈ wsX00, w ∈ wsX1_used := (fun _ h => List.mem_cons_of_mem _ (List.mem_append_right _ h))
  have hi1 : ∀ w ∈ wsX10, w ∈ wsX1_used := (fun _ h => List.mem_cons_of_mem _ (List.mem_append_left _ (List.mem_append_right _ h)))
  generalize hH : s.heap = H at hP
  have hS : va_S A s.heap H [] := by rw [← hH]; exact va_S.rf
  generalize hlo : ([] : List Loc) = locs at hS
  refine lv_iconst (v := 0) hx hb dX1_used_0 (by decide) ?_
  refine lv_istore_n (lv' := [(1, .int 0), (0, .ref ax)]) hx hb dX1_used_1 rfl hl (by decide) rfl (fun ls hl => ?_)
  refine lv_aload_n hx hb dX1_used_2 rfl (lv_at hl 1 rfl) ?_
  refine c_get hx hb hts hi1 hown hK hP 0 (by decide) (List.mem_of_getElem? (i := 1) rfl) (v := .ref ar) rfl dX1_used_3 (fun _ h => h) ?_
  refine lv_astore_n (lv' := [(2, .ref ar), (1, .int 0), (0, .ref ax)]) hx hb dX1_used_6 rfl hl (by decide) rfl (fun ls hl => ?_)
  refine lv_aload_n hx hb dX1_used_7 rfl (lv_at hl 0 rfl) ?_
  refine c_alen hx hb hK hP dX1_used_8 ?_
  refine lv_istore_n (lv' := [(3, .int 32), (2, .ref ar), (1, .int 0), (0, .ref ax)]) hx hb dX1_used_9 rfl hl (by decide) rfl (fun ls hl => ?_)
  refine lv_iconst (v := 0) hx hb dX1_used_10 (by decide) ?_
  refine lv_istore (lv' := [(4, .int 0), (3, .int 32), (2, .ref ar), (1, .int 0), (0, .ref ax)]) hx hb dX1_used_11 hl (by decide) rfl (fun ls hl => ?_)
  have loop : ∀ (n i : Nat) (ls : Array Slot), i ≤ 32 → 32 - i < n → lv_has ls 6 [(0, .ref ax), (1, .int (sumI (uF σ) i)), (2, .ref ar), (3, .int 32), (4, .int (nI i))] → W p l e (headSpec wsX1_used ({ frames := 1, cells := 0, slots := 0, locals := 30 } : Room)).room s m [.ref ax].toArray below meth c H locs 0 0 (MQ below (va_Qi (fun (r : Int32) (u : St) => r = used σ ∧ u = σ) (xB D (cT cO) (cW ax ar ad cO) A) A) [.ref ax].toArray s 0 0 A) (F0 m 13 ls []) := by
    intro n
    induction n with
    | zero =>
      intro i ls h1 h2
      exact absurd h2 (by omega)
    | succ n ih =>
      intro i ls hi hn hl
      refine lv_iload hx hb dX1_used_13 (lv_at hl 4 rfl) ?_
      refine lv_iload_n hx hb dX1_used_15 rfl (lv_at hl 3 rfl) ?_
      refine x_icmp_ge (tgt := 47) hx hb dX1_used_16 (by decide) (fun c_1 => ?_) (fun c_1 => ?_)
      · have hi9 : i = 32 := by
          rcases Nat.lt_or_ge i 32 with q | q
          · exact absurd ((nI_lt32 hi).mpr q) c_1
          · omega
        subst hi9
        refine lv_iload_n hx hb dX1_used_47 rfl (lv_at hl 1 rfl) ?_
        exact x_iret hx hb hr hlocks hK (σ) hP hD hS ⟨rfl, rfl⟩ dX1_used_48
      · have hlt : i < 32 := (nI_lt32 hi).mp c_1
        refine lv_aload_n hx hb dX1_used_19 rfl (lv_at hl 2 rfl) ?_
        refine lv_iload hx hb dX1_used_20 (lv_at hl 4 rfl) ?_
        refine c_aald hx hb hK hP hlt dX1_used_22 ?_
        refine lv_astore (lv' := [(5, .ref (ad i)), (0, .ref ax), (1, .int (sumI (uF σ) i)), (2, .ref ar), (3, .int 32), (4, .int (nI i))]) hx hb dX1_used_23 hl (by decide) rfl (fun ls hl => ?_)
        refine lv_aload hx hb dX1_used_25 (lv_at hl 0 rfl) ?_
        refine s_get hx hb hts hi0 hown hK hE hP hlt 1 (by decide) rfl (v := .int (bI (gB σ 1 i))) rfl dX1_used_27 (fun _ h => h) ?_
        refine x_ifeq (tgt := 41) hx hb dX1_used_30 (by decide) (fun c_2 => ?_) (fun c_2 => ?_)
        · refine lv_iinc (v := (nI i) + 1) (lv' := [(4, .int ((nI i) + 1)), (5, .ref (ad i)), (0, .ref ax), (1, .int (sumI (uF σ) i)), (2, .ref ar), (3, .int 32)]) hx hb dX1_used_41 hl (k := 5) rfl rfl (by decide) rfl (fun ls hl => ?_)
          refine lv_goto (tgt := 13) hx hb dX1_used_44 (by decide) ?_
          have e9_0 : sumI (uF σ) (i + 1) = sumI (uF σ) i := by simp [sumI, uF, Int32.add_zero, c_1, c_2]
          exact ih (i + 1) ls (by omega) (by omega) (by rw [e9_0, nI_succ]; exact lv_sub hl [2, 3, 4, 5, 0] rfl)
        · refine lv_iload_n hx hb dX1_used_33 rfl (lv_at hl 2 rfl) ?_
          refine lv_aload hx hb dX1_used_34 (lv_at hl 0 rfl) ?_
          refine s_get hx hb hts hi0 hown hK hE hP hlt 3 (by decide) rfl (v := .int (gS σ 3 i)) rfl dX1_used_36 (fun _ h => h) ?_
          refine lv_iadd hx hb dX1_used_39 ?_
          refine lv_istore_n (lv' := [(1, .int ((sumI (uF σ) i) + (gS σ 3 i))), (5, .ref (ad i)), (0, .ref ax), (2, .ref ar), (3, .int 32), (4, .int (nI i))]) hx hb dX1_used_40 rfl hl (by decide) rfl (fun ls hl => ?_)
          refine lv_iinc (v := (nI i) + 1) (lv' := [(4, .int ((nI i) + 1)), (1, .int ((sumI (uF σ) i) + (gS σ 3 i))), (5, .ref (ad i)), (0, .ref ax), (2, .ref ar), (3, .int 32)]) hx hb dX1_used_41 hl (k := 5) rfl rfl (by decide) rfl (fun ls hl => ?_)
          refine lv_goto (tgt := 13) hx hb dX1_used_44 (by decide) ?_
          have e9_0 : sumI (uF σ) (i + 1) = (sumI (uF σ) i) + (gS σ 3 i) := by simp [sumI, uF, Int32.add_zero, c_1, c_2]
          exact ih (i + 1) ls (by omega) (by omega) (by rw [e9_0, nI_succ]; exact lv_sub hl [3, 1, 4, 5, 0] rfl)
  exact loop 33 0 _ (Nat.zero_le _) (by decide) (lv_sub hl [4, 3, 2, 1, 0] rfl)
set_option maxHeartbeats 4000000 in
set_option maxRecDepth 100000 in
theorem k_X1_bytesThatCannotLeave (l : Launch) (D : va_G) (ax ar : Nat) (ad : Nat → Nat) (cO : ClassId) (sz : Nat) (σ : St) : Met l yX1_bytesThatCannotLeave wsX1_bytesThatCannotLeave ({ frames := 1, cells := 0, slots := 0, locals := 30 } : Room) (va_Pc [.ref ax] (xPre D (cT cO) xE (cW ax ar ad cO) σ sz)) (va_Qi (fun (r : Int32) (u : St) => r = pinA σ ∧ u = σ) (xB D (cT cO) (cW ax ar ad cO) (va_A (cW ax ar ad cO σ) sz)) (va_A (cW ax ar ad cO σ) sz)) 0 0 (va_A (cW ax ar ad cO σ) sz) := by
  refine xOpen (w := (cW ax ar ad cO)) (σ := σ) (cc := cX1_bytesThatCannotLeave) (maxL := 6) (ret := some .int) (QQ := fun A => va_Qi (fun (r : Int32) (u : St) => r = pinA σ ∧ u = σ) (xB D (cT cO) (cW ax ar ad cO) A) A) (by decide) rfl (Nat.le_of_ble_eq_true rfl) ?_
  intro p e s m below meth c A hx hb hr hml hown hts hlocks hname hK hE hA hP hD hS ls hl
  have hl : lv_has ls 6 [(0, .ref ax)] := hl
  have hown : s.vm.findClass RX1 = some m.cls := hown
  have hi0 : ∀ w ∈ wsX00, w ∈ wsX1_bytesThatCannotLeave := (fun _ h => List.mem_cons_of_mem _ (List.mem_append_right _ h))
  have hi1 : ∀ w ∈ wsX10, w ∈ wsX1_bytesThatCannotLeave := (fun _ h => List.mem_cons_of_mem _ (List.mem_append_left _ (List.mem_append_right _ h)))
  generalize hH : s.heap = H at hP
  have hS : va_S A s.heap H [] := by rw [← hH]; exact va_S.rf
  generalize hlo : ([] : List Loc) = locs at hS
  refine lv_iconst (v := 0) hx hb dX1_bytesThatCannotLeave_0 (by decide) ?_
  refine lv_istore_n (lv' := [(1, .int 0), (0, .ref ax)]) hx hb dX1_bytesThatCannotLeave_1 rfl hl (by decide) rfl (fun ls hl => ?_)
  refine lv_aload_n hx hb dX1_bytesThatCannotLeave_2 rfl (lv_at hl 1 rfl) ?_
  refine c_get hx hb hts hi1 hown hK hP 0 (by decide) (List.mem_of_getElem? (i := 1) rfl) (v := .ref ar) rfl dX1_bytesThatCannotLeave_3 (fun _ h => h) ?_
  refine lv_astore_n (lv' := [(2, .ref ar), (1, .int 0), (0, .ref ax)]) hx hb dX1_bytesThatCannotLeave_6 rfl hl (by decide) rfl (fun ls hl => ?_)
  refine lv_aload_n hx hb dX1_bytesThatCannotLeave_7 rfl (lv_at hl 0 rfl) ?_
  refine c_alen hx hb hK hP dX1_bytesThatCannotLeave_8 ?_
  refine lv_istore_n (lv' := [(3, .int 32), (2, .ref ar), (1, .int 0), (0, .ref ax)]) hx hb dX1_bytesThatCannotLeave_9 rfl hl (by decide) rfl (fun ls hl => ?_)
  refine lv_iconst (v := 0) hx hb dX1_bytesThatCannotLeave_10 (by decide) ?_
  refine lv_istore (lv' := [(4, .int 0), (3, .int 32), (2, .ref ar), (1, .int 0), (0, .ref ax)]) hx hb dX1_bytesThatCannotLeave_11 hl (by decide) rfl (fun ls hl => ?_)
  have loop : ∀ (n i : Nat) (ls : Array Slot) (H : Heap) (locs : List Loc), i ≤ 32 → 32 - i < n → va_P D vwCl (cW ax ar ad cO (σ)) H → va_D A (cW ax ar ad cO (σ)) → va_S A s.heap H locs → lv_has ls 6 [(0, .ref ax), (1, .int (sumI (pF σ) i)), (2, .ref ar), (3, .int 32), (4, .int (nI i))] → W p l e (headSpec wsX1_bytesThatCannotLeave ({ frames := 1, cells := 0, slots := 0, locals := 30 } : Room)).room s m [.ref ax].toArray below meth c H locs 0 0 (MQ below (va_Qi (fun (r : Int32) (u : St) => r = pinA σ ∧ u = σ) (xB D (cT cO) (cW ax ar ad cO) A) A) [.ref ax].toArray s 0 0 A) (F0 m 13 ls []) := by
    intro n
    induction n with
    | zero =>
      intro i ls H locs h1 h2
      exact absurd h2 (by omega)
    | succ n ih =>
      intro i ls H locs hi hn hP hD hS hl
      refine lv_iload hx hb dX1_bytesThatCannotLeave_13 (lv_at hl 4 rfl) ?_
      refine lv_iload_n hx hb dX1_bytesThatCannotLeave_15 rfl (lv_at hl 3 rfl) ?_
      refine x_icmp_ge (tgt := 64) hx hb dX1_bytesThatCannotLeave_16 (by decide) (fun c_1 => ?_) (fun c_1 => ?_)
      · have hi9 : i = 32 := by
          rcases Nat.lt_or_ge i 32 with q | q
          · exact absurd ((nI_lt32 hi).mpr q) c_1
          · omega
        subst hi9
        refine lv_iload_n hx hb dX1_bytesThatCannotLeave_64 rfl (lv_at hl 1 rfl) ?_
        exact x_iret hx hb hr hlocks hK (σ) hP hD hS ⟨rfl, rfl⟩ dX1_bytesThatCannotLeave_65
      · have hlt : i < 32 := (nI_lt32 hi).mp c_1
        refine lv_aload_n hx hb dX1_bytesThatCannotLeave_19 rfl (lv_at hl 2 rfl) ?_
        refine lv_iload hx hb dX1_bytesThatCannotLeave_20 (lv_at hl 4 rfl) ?_
        refine c_aald hx hb hK hP hlt dX1_bytesThatCannotLeave_22 ?_
        refine lv_astore (lv' := [(5, .ref (ad i)), (0, .ref ax), (1, .int (sumI (pF σ) i)), (2, .ref ar), (3, .int 32), (4, .int (nI i))]) hx hb dX1_bytesThatCannotLeave_23 hl (by decide) rfl (fun ls hl => ?_)
        refine lv_aload hx hb dX1_bytesThatCannotLeave_25 (lv_at hl 0 rfl) ?_
        refine s_get hx hb hts hi0 hown hK hE hP hlt 1 (by decide) rfl (v := .int (bI (gB σ 1 i))) rfl dX1_bytesThatCannotLeave_27 (fun _ h => h) ?_
        refine x_ifeq (tgt := 58) hx hb dX1_bytesThatCannotLeave_30 (by decide) (fun c_2 => ?_) (fun c_2 => ?_)
        · refine lv_iinc (v := (nI i) + 1) (lv' := [(4, .int ((nI i) + 1)), (5, .ref (ad i)), (0, .ref ax), (1, .int (sumI (pF σ) i)), (2, .ref ar), (3, .int 32)]) hx hb dX1_bytesThatCannotLeave_58 hl (k := 5) rfl rfl (by decide) rfl (fun ls hl => ?_)
          refine lv_goto (tgt := 13) hx hb dX1_bytesThatCannotLeave_61 (by decide) ?_
          have e9_0 : sumI (pF σ) (i + 1) = sumI (pF σ) i := by simp [sumI, pF, Int32.add_zero, c_1, c_2]
          exact ih (i + 1) ls H locs (by omega) (by omega) hP hD hS (by rw [e9_0, nI_succ]; exact lv_sub hl [2, 3, 4, 5, 0] rfl)
        · refine lv_aload hx hb dX1_bytesThatCannotLeave_33 (lv_at hl 0 rfl) ?_
          refine s_get hx hb hts hi0 hown hK hE hP hlt 2 (by decide) rfl (v := .int (bI (gB σ 2 i))) rfl dX1_bytesThatCannotLeave_35 (fun _ h => h) ?_
          refine x_ifeq (tgt := 58) hx hb dX1_bytesThatCannotLeave_38 (by decide) (fun c_3 => ?_) (fun c_3 => ?_)
          · refine lv_iinc (v := (nI i) + 1) (lv' := [(4, .int ((nI i) + 1)), (5, .ref (ad i)), (0, .ref ax), (1, .int (sumI (pF σ) i)), (2, .ref ar), (3, .int 32)]) hx hb dX1_bytesThatCannotLeave_58 hl (k := 5) rfl rfl (by decide) rfl (fun ls hl => ?_)
            refine lv_goto (tgt := 13) hx hb dX1_bytesThatCannotLeave_61 (by decide) ?_
            have e9_0 : sumI (pF σ) (i + 1) = sumI (pF σ) i := by simp [sumI, pF, Int32.add_zero, c_1, c_2, c_3]
            exact ih (i + 1) ls H locs (by omega) (by omega) hP hD hS (by rw [e9_0, nI_succ]; exact lv_sub hl [2, 3, 4, 5, 0] rfl)
          · refine lv_aload_n hx hb dX1_bytesThatCannotLeave_41 rfl (lv_at hl 1 rfl) ?_
            refine lv_aload hx hb dX1_bytesThatCannotLeave_42 (lv_at hl 0 rfl) ?_
            refine x_calli (va_runV (As := [.ref (ad i)]) (rest := []) ⟨hx, hb, hml, hown, hts⟩ (k_X1_hasEnded l D ax ar ad cO H.size σ hlt) (cwV 1 hts gX1_bytesThatCannotLeave_X1_hasEnded rfl rfl rfl (by decide +kernel) ⟨Nat.le_of_ble_eq_true rfl, Nat.le_of_ble_eq_true rfl⟩) (xPreV xE_ok hE hK hA hP hD hS (q0 := 0) (ci := 1) rfl rfl rfl) rfl rfl hl.1 rfl (lv_room (Nat.le_of_ble_eq_true rfl)) dX1_bytesThatCannotLeave_44 ⟨Nat.le_of_ble_eq_true rfl, Nat.le_of_ble_eq_true rfl⟩) hD hS hA (fun r u H locs hp hP hD hS => ?_)
            obtain ⟨rfl, hu9⟩ := hp
            rw [hu9] at hP hD
            refine x_ifne (tgt := 58) hx hb dX1_bytesThatCannotLeave_47 (by decide) (fun c_4 => ?_) (fun c_4 => ?_)
            · refine lv_iinc (v := (nI i) + 1) (lv' := [(4, .int ((nI i) + 1)), (5, .ref (ad i)), (0, .ref ax), (1, .int (sumI (pF σ) i)), (2, .ref ar), (3, .int 32)]) hx hb dX1_bytesThatCannotLeave_58 hl (k := 5) rfl rfl (by decide) rfl (fun ls hl => ?_)
              refine lv_goto (tgt := 13) hx hb dX1_bytesThatCannotLeave_61 (by decide) ?_
              have e9_0 : sumI (pF σ) (i + 1) = sumI (pF σ) i := by simp [sumI, pF, Int32.add_zero, c_1, c_2, c_3, c_4]
              exact ih (i + 1) ls H locs (by omega) (by omega) hP hD hS (by rw [e9_0, nI_succ]; exact lv_sub hl [2, 3, 4, 5, 0] rfl)
            · refine lv_iload_n hx hb dX1_bytesThatCannotLeave_50 rfl (lv_at hl 2 rfl) ?_
              refine lv_aload hx hb dX1_bytesThatCannotLeave_51 (lv_at hl 0 rfl) ?_
              refine s_get hx hb hts hi0 hown hK hE hP hlt 3 (by decide) rfl (v := .int (gS σ 3 i)) rfl dX1_bytesThatCannotLeave_53 (fun _ h => h) ?_
              refine lv_iadd hx hb dX1_bytesThatCannotLeave_56 ?_
              refine lv_istore_n (lv' := [(1, .int ((sumI (pF σ) i) + (gS σ 3 i))), (5, .ref (ad i)), (0, .ref ax), (2, .ref ar), (3, .int 32), (4, .int (nI i))]) hx hb dX1_bytesThatCannotLeave_57 rfl hl (by decide) rfl (fun ls hl => ?_)
              refine lv_iinc (v := (nI i) + 1) (lv' := [(4, .int ((nI i) + 1)), (1, .int ((sumI (pF σ) i) + (gS σ 3 i))), (5, .ref (ad i)), (0, .ref ax), (2, .ref ar), (3, .int 32)]) hx hb dX1_bytesThatCannotLeave_58 hl (k := 5) rfl rfl (by decide) rfl (fun ls hl => ?_)
              refine lv_goto (tgt := 13) hx hb dX1_bytesThatCannotLeave_61 (by decide) ?_
              have e9_0 : sumI (pF σ) (i + 1) = (sumI (pF σ) i) + (gS σ 3 i) := by simp [sumI, pF, Int32.add_zero, c_1, c_2, c_3, c_4]
              exact ih (i + 1) ls H locs (by omega) (by omega) hP hD hS (by rw [e9_0, nI_succ]; exact lv_sub hl [3, 1, 4, 5, 0] rfl)
  exact loop 33 0 _ _ _ (Nat.zero_le _) (by decide) hP hD hS (lv_sub hl [4, 3, 2, 1, 0] rfl)
set_option maxHeartbeats 4000000 in
set_option maxRecDepth 100000 in
theorem k_X1_bytesNotOver (l : Launch) (D : va_G) (ax ar : Nat) (ad : Nat → Nat) (cO : ClassId) (sz : Nat) (σ : St) : Met l yX1_bytesNotOver wsX1_bytesNotOver ({ frames := 1, cells := 0, slots := 0, locals := 30 } : Room) (va_Pc [.ref ax] (xPre D (cT cO) xE (cW ax ar ad cO) σ sz)) (va_Qi (fun (r : Int32) (u : St) => r = notO σ ∧ u = σ) (xB D (cT cO) (cW ax ar ad cO) (va_A (cW ax ar ad cO σ) sz)) (va_A (cW ax ar ad cO σ) sz)) 0 0 (va_A (cW ax ar ad cO σ) sz) := by
  refine xOpen (w := (cW ax ar ad cO)) (σ := σ) (cc := cX1_bytesNotOver) (maxL := 6) (ret := some .int) (QQ := fun A => va_Qi (fun (r : Int32) (u : St) => r = notO σ ∧ u = σ) (xB D (cT cO) (cW ax ar ad cO) A) A) (by decide) rfl (Nat.le_of_ble_eq_true rfl) ?_
  intro p e s m below meth c A hx hb hr hml hown hts hlocks hname hK hE hA hP hD hS ls hl
  have hl : lv_has ls 6 [(0, .ref ax)] := hl
  have hown : s.vm.findClass RX1 = some m.cls := hown
  have hi0 : ∀ w ∈ wsX00, w ∈ wsX1_bytesNotOver := (fun _ h => List.mem_cons_of_mem _ (List.mem_append_right _ h))
  have hi1 : ∀ w ∈ wsX10, w ∈ wsX1_bytesNotOver := (fun _ h => List.mem_cons_of_mem _ (List.mem_append_left _ (List.mem_append_right _ h)))
  generalize hH : s.heap = H at hP
  have hS : va_S A s.heap H [] := by rw [← hH]; exact va_S.rf
  generalize hlo : ([] : List Loc) = locs at hS
  refine lv_iconst (v := 0) hx hb dX1_bytesNotOver_0 (by decide) ?_
  refine lv_istore_n (lv' := [(1, .int 0), (0, .ref ax)]) hx hb dX1_bytesNotOver_1 rfl hl (by decide) rfl (fun ls hl => ?_)
  refine lv_aload_n hx hb dX1_bytesNotOver_2 rfl (lv_at hl 1 rfl) ?_
  refine c_get hx hb hts hi1 hown hK hP 0 (by decide) (List.mem_of_getElem? (i := 1) rfl) (v := .ref ar) rfl dX1_bytesNotOver_3 (fun _ h => h) ?_
  refine lv_astore_n (lv' := [(2, .ref ar), (1, .int 0), (0, .ref ax)]) hx hb dX1_bytesNotOver_6 rfl hl (by decide) rfl (fun ls hl => ?_)
  refine lv_aload_n hx hb dX1_bytesNotOver_7 rfl (lv_at hl 0 rfl) ?_
  refine c_alen hx hb hK hP dX1_bytesNotOver_8 ?_
  refine lv_istore_n (lv' := [(3, .int 32), (2, .ref ar), (1, .int 0), (0, .ref ax)]) hx hb dX1_bytesNotOver_9 rfl hl (by decide) rfl (fun ls hl => ?_)
  refine lv_iconst (v := 0) hx hb dX1_bytesNotOver_10 (by decide) ?_
  refine lv_istore (lv' := [(4, .int 0), (3, .int 32), (2, .ref ar), (1, .int 0), (0, .ref ax)]) hx hb dX1_bytesNotOver_11 hl (by decide) rfl (fun ls hl => ?_)
  have loop : ∀ (n i : Nat) (ls : Array Slot) (H : Heap) (locs : List Loc), i ≤ 32 → 32 - i < n → va_P D vwCl (cW ax ar ad cO (σ)) H → va_D A (cW ax ar ad cO (σ)) → va_S A s.heap H locs → lv_has ls 6 [(0, .ref ax), (1, .int (sumI (nF σ) i)), (2, .ref ar), (3, .int 32), (4, .int (nI i))] → W p l e (headSpec wsX1_bytesNotOver ({ frames := 1, cells := 0, slots := 0, locals := 30 } : Room)).room s m [.ref ax].toArray below meth c H locs 0 0 (MQ below (va_Qi (fun (r : Int32) (u : St) => r = notO σ ∧ u = σ) (xB D (cT cO) (cW ax ar ad cO) A) A) [.ref ax].toArray s 0 0 A) (F0 m 13 ls []) := by
    intro n
    induction n with
    | zero =>
      intro i ls H locs h1 h2
      exact absurd h2 (by omega)
    | succ n ih =>
      intro i ls H locs hi hn hP hD hS hl
      refine lv_iload hx hb dX1_bytesNotOver_13 (lv_at hl 4 rfl) ?_
      refine lv_iload_n hx hb dX1_bytesNotOver_15 rfl (lv_at hl 3 rfl) ?_
      refine x_icmp_ge (tgt := 56) hx hb dX1_bytesNotOver_16 (by decide) (fun c_1 => ?_) (fun c_1 => ?_)
      · have hi9 : i = 32 := by
          rcases Nat.lt_or_ge i 32 with q | q
          · exact absurd ((nI_lt32 hi).mpr q) c_1
          · omega
        subst hi9
        refine lv_iload_n hx hb dX1_bytesNotOver_56 rfl (lv_at hl 1 rfl) ?_
        exact x_iret hx hb hr hlocks hK (σ) hP hD hS ⟨rfl, rfl⟩ dX1_bytesNotOver_57
      · have hlt : i < 32 := (nI_lt32 hi).mp c_1
        refine lv_aload_n hx hb dX1_bytesNotOver_19 rfl (lv_at hl 2 rfl) ?_
        refine lv_iload hx hb dX1_bytesNotOver_20 (lv_at hl 4 rfl) ?_
        refine c_aald hx hb hK hP hlt dX1_bytesNotOver_22 ?_
        refine lv_astore (lv' := [(5, .ref (ad i)), (0, .ref ax), (1, .int (sumI (nF σ) i)), (2, .ref ar), (3, .int 32), (4, .int (nI i))]) hx hb dX1_bytesNotOver_23 hl (by decide) rfl (fun ls hl => ?_)
        refine lv_aload hx hb dX1_bytesNotOver_25 (lv_at hl 0 rfl) ?_
        refine s_get hx hb hts hi0 hown hK hE hP hlt 1 (by decide) rfl (v := .int (bI (gB σ 1 i))) rfl dX1_bytesNotOver_27 (fun _ h => h) ?_
        refine x_ifeq (tgt := 50) hx hb dX1_bytesNotOver_30 (by decide) (fun c_2 => ?_) (fun c_2 => ?_)
        · refine lv_iinc (v := (nI i) + 1) (lv' := [(4, .int ((nI i) + 1)), (5, .ref (ad i)), (0, .ref ax), (1, .int (sumI (nF σ) i)), (2, .ref ar), (3, .int 32)]) hx hb dX1_bytesNotOver_50 hl (k := 5) rfl rfl (by decide) rfl (fun ls hl => ?_)
          refine lv_goto (tgt := 13) hx hb dX1_bytesNotOver_53 (by decide) ?_
          have e9_0 : sumI (nF σ) (i + 1) = sumI (nF σ) i := by simp [sumI, nF, Int32.add_zero, c_1, c_2]
          exact ih (i + 1) ls H locs (by omega) (by omega) hP hD hS (by rw [e9_0, nI_succ]; exact lv_sub hl [2, 3, 4, 5, 0] rfl)
        · refine lv_aload_n hx hb dX1_bytesNotOver_33 rfl (lv_at hl 1 rfl) ?_
          refine lv_aload hx hb dX1_bytesNotOver_34 (lv_at hl 0 rfl) ?_
          refine x_calli (va_runV (As := [.ref (ad i)]) (rest := []) ⟨hx, hb, hml, hown, hts⟩ (k_X1_hasEnded l D ax ar ad cO H.size σ hlt) (cwV 1 hts gX1_bytesNotOver_X1_hasEnded rfl rfl rfl (by decide +kernel) ⟨Nat.le_of_ble_eq_true rfl, Nat.le_of_ble_eq_true rfl⟩) (xPreV xE_ok hE hK hA hP hD hS (q0 := 0) (ci := 1) rfl rfl rfl) rfl rfl hl.1 rfl (lv_room (Nat.le_of_ble_eq_true rfl)) dX1_bytesNotOver_36 ⟨Nat.le_of_ble_eq_true rfl, Nat.le_of_ble_eq_true rfl⟩) hD hS hA (fun r u H locs hp hP hD hS => ?_)
          obtain ⟨rfl, hu9⟩ := hp
          rw [hu9] at hP hD
          refine x_ifne (tgt := 50) hx hb dX1_bytesNotOver_39 (by decide) (fun c_3 => ?_) (fun c_3 => ?_)
          · refine lv_iinc (v := (nI i) + 1) (lv' := [(4, .int ((nI i) + 1)), (5, .ref (ad i)), (0, .ref ax), (1, .int (sumI (nF σ) i)), (2, .ref ar), (3, .int 32)]) hx hb dX1_bytesNotOver_50 hl (k := 5) rfl rfl (by decide) rfl (fun ls hl => ?_)
            refine lv_goto (tgt := 13) hx hb dX1_bytesNotOver_53 (by decide) ?_
            have e9_0 : sumI (nF σ) (i + 1) = sumI (nF σ) i := by simp [sumI, nF, Int32.add_zero, c_1, c_2, c_3]
            exact ih (i + 1) ls H locs (by omega) (by omega) hP hD hS (by rw [e9_0, nI_succ]; exact lv_sub hl [2, 3, 4, 5, 0] rfl)
          · refine lv_iload_n hx hb dX1_bytesNotOver_42 rfl (lv_at hl 2 rfl) ?_
            refine lv_aload hx hb dX1_bytesNotOver_43 (lv_at hl 0 rfl) ?_
            refine s_get hx hb hts hi0 hown hK hE hP hlt 3 (by decide) rfl (v := .int (gS σ 3 i)) rfl dX1_bytesNotOver_45 (fun _ h => h) ?_
            refine lv_iadd hx hb dX1_bytesNotOver_48 ?_
            refine lv_istore_n (lv' := [(1, .int ((sumI (nF σ) i) + (gS σ 3 i))), (5, .ref (ad i)), (0, .ref ax), (2, .ref ar), (3, .int 32), (4, .int (nI i))]) hx hb dX1_bytesNotOver_49 rfl hl (by decide) rfl (fun ls hl => ?_)
            refine lv_iinc (v := (nI i) + 1) (lv' := [(4, .int ((nI i) + 1)), (1, .int ((sumI (nF σ) i) + (gS σ 3 i))), (5, .ref (ad i)), (0, .ref ax), (2, .ref ar), (3, .int 32)]) hx hb dX1_bytesNotOver_50 hl (k := 5) rfl rfl (by decide) rfl (fun ls hl => ?_)
            refine lv_goto (tgt := 13) hx hb dX1_bytesNotOver_53 (by decide) ?_
            have e9_0 : sumI (nF σ) (i + 1) = (sumI (nF σ) i) + (gS σ 3 i) := by simp [sumI, nF, Int32.add_zero, c_1, c_2, c_3]
            exact ih (i + 1) ls H locs (by omega) (by omega) hP hD hS (by rw [e9_0, nI_succ]; exact lv_sub hl [3, 1, 4, 5, 0] rfl)
  exact loop 33 0 _ _ _ (Nat.zero_le _) (by decide) hP hD hS (lv_sub hl [4, 3, 2, 1, 0] rfl)
