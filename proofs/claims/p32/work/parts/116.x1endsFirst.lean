set_option maxHeartbeats 4000000 in
set_option maxRecDepth 100000 in
theorem k_X1_endsFirst (l : Launch) (D : va_G) (ax ar : Nat) (ad : Nat → Nat) (cO : ClassId) (sz : Nat) (σ : St) : Met l yX1_endsFirst wsX1_endsFirst ({ frames := 0, cells := 0, slots := 0, locals := 0 } : Room) (va_Pc [.ref ax] (xPre D (cT cO) xE (cW ax ar ad cO) σ sz)) (va_Qi (fun (r : Int32) (u : St) => r = cEnds σ ∧ u = σ) (xB D (cT cO) (cW ax ar ad cO) (va_A (cW ax ar ad cO σ) sz)) (va_A (cW ax ar ad cO σ) sz)) 0 0 (va_A (cW ax ar ad cO σ) sz) := by
  refine xOpen (w := (cW ax ar ad cO)) (σ := σ) (cc := cX1_endsFirst) (maxL := 6) (ret := some .int) (QQ := fun A => va_Qi (fun (r : Int32) (u : St) => r = cEnds σ ∧ u = σ) (xB D (cT cO) (cW ax ar ad cO) A) A) (by decide) rfl (Nat.le_of_ble_eq_true rfl) ?_
  intro p e s m below meth c A hx hb hr hml hown hts hlocks hname hK hE hA hP hD hS ls hl
  have hl : lv_has ls 6 [(0, .ref ax)] := hl
  have hown : s.vm.findClass RX1 = some m.cls := hown
  have hi0 : ∀ w ∈ wsX00, w ∈ wsX1_endsFirst := (fun _ h => List.mem_cons_of_mem _ (List.mem_append_right _ h))
  have hi1 : ∀ w ∈ wsX10, w ∈ wsX1_endsFirst := (fun _ h => List.mem_cons_of_mem _ (List.mem_append_left _ (List.mem_append_right _ h)))
  generalize hH : s.heap = H at hP
  have hS : va_S A s.heap H [] := by rw [← hH]; exact va_S.rf
  generalize hlo : ([] : List Loc) = locs at hS
  refine lv_null hx hb dX1_endsFirst_0 ?_
  refine lv_astore_nN (lv' := [(1, .null), (0, .ref ax)]) hx hb dX1_endsFirst_1 rfl hl (by decide) rfl (fun ls hl => ?_)
  refine lv_aload_n hx hb dX1_endsFirst_2 rfl (lv_at hl 1 rfl) ?_
  refine c_get hx hb hts hi1 hown hK hP 0 (by decide) (List.mem_of_getElem? (i := 1) rfl) (v := .ref ar) rfl dX1_endsFirst_3 (fun _ h => h) ?_
  refine lv_astore_n (lv' := [(2, .ref ar), (1, .null), (0, .ref ax)]) hx hb dX1_endsFirst_6 rfl hl (by decide) rfl (fun ls hl => ?_)
  refine lv_aload_n hx hb dX1_endsFirst_7 rfl (lv_at hl 0 rfl) ?_
  refine c_alen hx hb hK hP dX1_endsFirst_8 ?_
  refine lv_istore_n (lv' := [(3, .int 32), (2, .ref ar), (1, .null), (0, .ref ax)]) hx hb dX1_endsFirst_9 rfl hl (by decide) rfl (fun ls hl => ?_)
  refine lv_iconst (v := 0) hx hb dX1_endsFirst_10 (by decide) ?_
  refine lv_istore (lv' := [(4, .int 0), (3, .int 32), (2, .ref ar), (1, .null), (0, .ref ax)]) hx hb dX1_endsFirst_11 hl (by decide) rfl (fun ls hl => ?_)
  have loop : ∀ (n i : Nat) (ls : Array Slot), i ≤ 32 → 32 - i < n → lv_has ls 6 [(0, .ref ax), (1, va_rf ((efR σ i).map ad)), (2, .ref ar), (3, .int 32), (4, .int (nI i))] → W p l e (headSpec wsX1_endsFirst ({ frames := 0, cells := 0, slots := 0, locals := 0 } : Room)).room s m [.ref ax].toArray below meth c H locs 0 0 (MQ below (va_Qi (fun (r : Int32) (u : St) => r = cEnds σ ∧ u = σ) (xB D (cT cO) (cW ax ar ad cO) A) A) [.ref ax].toArray s 0 0 A) (F0 m 13 ls []) := by
    intro n
    induction n with
    | zero =>
      intro i ls h1 h2
      exact absurd h2 (by omega)
    | succ n ih =>
      intro i ls hi hn hl
      refine lv_iload hx hb dX1_endsFirst_13 (lv_at hl 4 rfl) ?_
      refine lv_iload_n hx hb dX1_endsFirst_15 rfl (lv_at hl 3 rfl) ?_
      refine x_icmp_ge (tgt := 58) hx hb dX1_endsFirst_16 (by decide) (fun c_1 => ?_) (fun c_1 => ?_)
      · have hi9 : i = 32 := by
          rcases Nat.lt_or_ge i 32 with q | q
          · exact absurd ((nI_lt32 hi).mpr q) c_1
          · omega
        subst hi9
        refine x_aload_nQ hx hb dX1_endsFirst_58 rfl (lv_at hl 1 rfl) ?_
        refine x_ifnonnullQ (tgt := 66) hx hb dX1_endsFirst_59 (by decide) (fun k_3 c_2 => ?_) (fun c_2 => ?_)
        · have hk_3 : k_3 < 32 := Nat.lt_of_lt_of_le (efR_lt _ _ _ c_2) hi
          refine x_aload_nQ hx hb dX1_endsFirst_66 rfl (lv_at hl 1 rfl) ?_
          refine W.eq (g2 := F0 m 67 ls [.ref (ad k_3)]) (by rw [c_2]; rfl) ?_
          refine s_get hx hb hts hi0 hown hK hE hP hk_3 0 (by decide) rfl (v := .int (gS σ 0 k_3)) rfl dX1_endsFirst_67 (fun _ h => h) ?_
          exact x_iret hx hb hr hlocks hK (σ) hP hD hS ⟨by rw [cEnds, c_2], rfl⟩ dX1_endsFirst_70
        · refine lv_iconst (v := (-1)) hx hb dX1_endsFirst_62 (by decide) ?_
          refine lv_goto (tgt := 70) hx hb dX1_endsFirst_63 (by decide) ?_
          exact x_iret hx hb hr hlocks hK (σ) hP hD hS ⟨by rw [cEnds, c_2], rfl⟩ dX1_endsFirst_70
      · have hlt : i < 32 := (nI_lt32 hi).mp c_1
        refine lv_aload_n hx hb dX1_endsFirst_19 rfl (lv_at hl 2 rfl) ?_
        refine lv_iload hx hb dX1_endsFirst_20 (lv_at hl 4 rfl) ?_
        refine c_aald hx hb hK hP hlt dX1_endsFirst_22 ?_
        refine lv_astore (lv' := [(5, .ref (ad i)), (0, .ref ax), (1, va_rf ((efR σ i).map ad)), (2, .ref ar), (3, .int 32), (4, .int (nI i))]) hx hb dX1_endsFirst_23 hl (by decide) rfl (fun ls hl => ?_)
        refine lv_aload hx hb dX1_endsFirst_25 (lv_at hl 0 rfl) ?_
        refine s_get hx hb hts hi0 hown hK hE hP hlt 1 (by decide) rfl (v := .int (bI (gB σ 1 i))) rfl dX1_endsFirst_27 (fun _ h => h) ?_
        refine x_ifeq (tgt := 52) hx hb dX1_endsFirst_30 (by decide) (fun c_4 => ?_) (fun c_4 => ?_)
        · refine lv_iinc (v := (nI i) + 1) (lv' := [(4, .int ((nI i) + 1)), (5, .ref (ad i)), (0, .ref ax), (1, va_rf ((efR σ i).map ad)), (2, .ref ar), (3, .int 32)]) hx hb dX1_endsFirst_52 hl (k := 5) rfl rfl (by decide) rfl (fun ls hl => ?_)
          refine lv_goto (tgt := 13) hx hb dX1_endsFirst_55 (by decide) ?_
          have e9_0 : efR σ (i + 1) = efR σ i := by rw [efR_s]; simp [endO, c_1, c_4]
          exact ih (i + 1) ls (by omega) (by omega) (by rw [e9_0, nI_succ]; exact lv_sub hl [2, 3, 4, 5, 0] rfl)
        · refine x_aload_nQ hx hb dX1_endsFirst_33 rfl (lv_at hl 2 rfl) ?_
          refine x_ifnullQ (tgt := 49) hx hb dX1_endsFirst_34 (by decide) (fun c_5 => ?_) (fun k_6 c_5 => ?_)
          · refine lv_aload hx hb dX1_endsFirst_49 (lv_at hl 0 rfl) ?_
            refine lv_astore_n (lv' := [(1, .ref (ad i)), (5, .ref (ad i)), (0, .ref ax), (2, .ref ar), (3, .int 32), (4, .int (nI i))]) hx hb dX1_endsFirst_51 rfl hl (by decide) rfl (fun ls hl => ?_)
            refine lv_iinc (v := (nI i) + 1) (lv' := [(4, .int ((nI i) + 1)), (1, .ref (ad i)), (5, .ref (ad i)), (0, .ref ax), (2, .ref ar), (3, .int 32)]) hx hb dX1_endsFirst_52 hl (k := 5) rfl rfl (by decide) rfl (fun ls hl => ?_)
            refine lv_goto (tgt := 13) hx hb dX1_endsFirst_55 (by decide) ?_
            have e9_0 : efR σ (i + 1) = some i := by rw [efR_s, c_5]; simp [endO, c_1, c_4]
            exact ih (i + 1) ls (by omega) (by omega) (by rw [e9_0, nI_succ]; exact lv_sub hl [3, 1, 4, 5, 0] rfl)
          · have hk_6 : k_6 < 32 := Nat.lt_of_lt_of_le (efR_lt _ _ _ c_5) hi
            refine lv_aload hx hb dX1_endsFirst_37 (lv_at hl 0 rfl) ?_
            refine s_get hx hb hts hi0 hown hK hE hP hlt 5 (by decide) rfl (v := .int (gS σ 5 i)) rfl dX1_endsFirst_39 (fun _ h => h) ?_
            refine x_aload_nQ hx hb dX1_endsFirst_42 rfl (lv_at hl 2 rfl) ?_
            refine W.eq (g2 := F0 m 43 ls [.ref (ad k_6), .int (gS σ 5 i)]) (by rw [c_5]; rfl) ?_
            refine s_get hx hb hts hi0 hown hK hE hP hk_6 5 (by decide) rfl (v := .int (gS σ 5 k_6)) rfl dX1_endsFirst_43 (fun _ h => h) ?_
            refine x_icmp_ge (tgt := 52) hx hb dX1_endsFirst_46 (by decide) (fun c_7 => ?_) (fun c_7 => ?_)
            · refine lv_iinc (v := (nI i) + 1) (lv' := [(4, .int ((nI i) + 1)), (5, .ref (ad i)), (0, .ref ax), (1, va_rf ((efR σ i).map ad)), (2, .ref ar), (3, .int 32)]) hx hb dX1_endsFirst_52 hl (k := 5) rfl rfl (by decide) rfl (fun ls hl => ?_)
              refine lv_goto (tgt := 13) hx hb dX1_endsFirst_55 (by decide) ?_
              have e9_0 : efR σ (i + 1) = efR σ i := by rw [efR_s, c_5]; simp [endO, c_1, c_4, c_7]
              exact ih (i + 1) ls (by omega) (by omega) (by rw [e9_0, nI_succ]; exact lv_sub hl [2, 3, 4, 5, 0] rfl)
            · refine lv_aload hx hb dX1_endsFirst_49 (lv_at hl 0 rfl) ?_
              refine lv_astore_n (lv' := [(1, .ref (ad i)), (5, .ref (ad i)), (0, .ref ax), (2, .ref ar), (3, .int 32), (4, .int (nI i))]) hx hb dX1_endsFirst_51 rfl hl (by decide) rfl (fun ls hl => ?_)
              refine lv_iinc (v := (nI i) + 1) (lv' := [(4, .int ((nI i) + 1)), (1, .ref (ad i)), (5, .ref (ad i)), (0, .ref ax), (2, .ref ar), (3, .int 32)]) hx hb dX1_endsFirst_52 hl (k := 5) rfl rfl (by decide) rfl (fun ls hl => ?_)
              refine lv_goto (tgt := 13) hx hb dX1_endsFirst_55 (by decide) ?_
              have e9_0 : efR σ (i + 1) = some i := by rw [efR_s, c_5]; simp [endO, c_1, c_4, c_7]
              exact ih (i + 1) ls (by omega) (by omega) (by rw [e9_0, nI_succ]; exact lv_sub hl [3, 1, 4, 5, 0] rfl)
  exact loop 33 0 _ (Nat.zero_le _) (by decide) (lv_sub hl [4, 3, 2, 1, 0] rfl)
set_option maxHeartbeats 4000000 in
set_option maxRecDepth 100000 in
theorem k_X1_leaving (l : Launch) (D : va_G) (ax ar : Nat) (ad : Nat → Nat) (cO : ClassId) (sz : Nat) (σ : St) (t : Int32) (N : Nat) (hN : N < 64) (h1 : ∀ j, j < N → nI j < t ∧ nth σ j ≠ none) (h2 : (¬ nI N < t ∨ nth σ N = none) ∧ (¬ t < 32 → nth σ N = none)) (hfl : l.stackTraces = false) : vx_Met l yX1_leaving wsX1_leaving ({ frames := 6, cells := 1, slots := 6, locals := 150 } : Room) (va_Pc [.ref ax, .int t] (xPre D (cT cO) xE (cW ax ar ad cO) σ sz)) (va_Qi (fun (r : Int32) (u : St) => ¬ t < 0 ∧ (∃ k, nth σ N = some k ∧ r = gS σ 0 k) ∧ u = σ) (xB D (cT cO) (cW ax ar ad cO) (va_A (cW ax ar ad cO σ) sz)) (va_A (cW ax ar ad cO σ) sz)) (xXC D (cT cO) (cW ax ar ad cO) (va_A (cW ax ar ad cO σ) sz) σ (fun En => En = xIO ∧ (t < 0 ∨ nth σ N = none))) 1 6 (va_A (cW ax ar ad cO σ) sz) := by
  refine xxOpen (w := (cW ax ar ad cO)) (σ := σ) (cc := cX1_leaving) (maxL := 4) (ret := some .int) (QQ := fun A => va_Qi (fun (r : Int32) (u : St) => ¬ t < 0 ∧ (∃ k, nth σ N = some k ∧ r = gS σ 0 k) ∧ u = σ) (xB D (cT cO) (cW ax ar ad cO) A) A) (XX := fun A => xXC D (cT cO) (cW ax ar ad cO) A σ (fun En => En = xIO ∧ (t < 0 ∨ nth σ N = none))) (by decide) rfl (Nat.le_of_ble_eq_true rfl) ?_
  intro p e s m below meth c A hx hb hr hml hown hts hlocks htab hK hE hA hP hD hS ls hl
  have hl : lv_has ls 4 [(0, .ref ax), (1, .int t)] := hl
  have hown : s.vm.findClass RX1 = some m.cls := hown
  have hi0 : ∀ w ∈ wsX00, w ∈ wsX1_leaving := (fun _ h => List.mem_cons_of_mem _ (List.mem_append_left _ (List.mem_append_left _ (List.mem_append_right _ h))))
  have hi1 : ∀ w ∈ wsX10, w ∈ wsX1_leaving := (fun _ h => List.mem_cons_of_mem _ (List.mem_append_left _ (List.mem_append_right _ h)))
  generalize hH : s.heap = H at hP
  have hS : va_S A s.heap H [] := by rw [← hH]; exact va_S.rf
  generalize hlo : ([] : List Loc) = locs at hS
  refine lv_iload_n hx hb dX1_leaving_0 rfl (lv_at hl 1 rfl) ?_
  refine lv_if_lt (tgt := 10) hx hb dX1_leaving_1 (by decide) (fun c_1 => ?_) (fun c_1 => ?_)
  · refine lv_null hx hb dX1_leaving_10 ?_
    refine lv_goto (tgt := 18) hx hb dX1_leaving_11 (by decide) ?_
    refine lv_astore_nN (lv' := [(2, .null), (0, .ref ax), (1, .int t)]) hx hb dX1_leaving_18 rfl hl (by decide) rfl (fun ls hl => ?_)
    refine lv_iconst (v := 0) hx hb dX1_leaving_19 (by decide) ?_
    refine lv_istore_n (lv' := [(3, .int 0), (2, .null), (0, .ref ax), (1, .int t)]) hx hb dX1_leaving_20 rfl hl (by decide) rfl (fun ls hl => ?_)
    refine lv_iload_n hx hb dX1_leaving_21 rfl (lv_at hl 0 rfl) ?_
    refine lv_iload_n hx hb dX1_leaving_22 rfl (lv_at hl 3 rfl) ?_
    refine x_icmp_ge (tgt := 42) hx hb dX1_leaving_23 (by decide) (fun c_2 => ?_) (fun c_2 => ?_)
    · refine lv_aload_nN hx hb dX1_leaving_42 rfl (lv_at hl 1 rfl) ?_
      refine lv_ifnonnullN hx hb dX1_leaving_43 ?_
      obtain ⟨sa, hsa⟩ := hE.1.2.1 (107, "the order has no such place") (List.mem_of_getElem? (i := 4) rfl)
      exact vx_throwS (A := A) (text := "the order has no such place") (names := ["java/lang/RuntimeException", "java/lang/Exception"]) (sa := sa) hx hb hfl hown (by decide +kernel) (by decide +kernel) (hts _ (List.mem_of_getElem? (i := 1) rfl)) (hts _ (List.mem_of_getElem? (i := 2) rfl)) hsa (hat_IO (fun w h => hts w (List.mem_cons_of_mem _ (List.mem_append_right _ h))) hE.1) hgd_IO hE.2.1 hE.2.2 hS (hl.1.trans hml.symm) dX1_leaving_46 dX1_leaving_49 dX1_leaving_50 dX1_leaving_52 dX1_leaving_55 (fun x hx => (htab x hx).elim) (Nat.le_of_ble_eq_true rfl) (Nat.le_of_ble_eq_true rfl) (Nat.le_of_ble_eq_true rfl) (Nat.le_of_ble_eq_true rfl) hlocks (fun t9 hvm9 hz9 hk9 => x_thr hK hP hD hS (⟨rfl, Or.inl c_1⟩) hvm9 hz9 hk9) hS.2.2 (Nat.le_of_ble_eq_true rfl) (Nat.le_of_ble_eq_true rfl)
    · refine lv_aload_nN hx hb dX1_leaving_26 rfl (lv_at hl 1 rfl) ?_
      refine lv_ifnullN (tgt := 42) hx hb dX1_leaving_27 (by decide) ?_
      refine lv_aload_nN hx hb dX1_leaving_42 rfl (lv_at hl 1 rfl) ?_
      refine lv_ifnonnullN hx hb dX1_leaving_43 ?_
      obtain ⟨sa, hsa⟩ := hE.1.2.1 (107, "the order has no such place") (List.mem_of_getElem? (i := 4) rfl)
      exact vx_throwS (A := A) (text := "the order has no such place") (names := ["java/lang/RuntimeException", "java/lang/Exception"]) (sa := sa) hx hb hfl hown (by decide +kernel) (by decide +kernel) (hts _ (List.mem_of_getElem? (i := 1) rfl)) (hts _ (List.mem_of_getElem? (i := 2) rfl)) hsa (hat_IO (fun w h => hts w (List.mem_cons_of_mem _ (List.mem_append_right _ h))) hE.1) hgd_IO hE.2.1 hE.2.2 hS (hl.1.trans hml.symm) dX1_leaving_46 dX1_leaving_49 dX1_leaving_50 dX1_leaving_52 dX1_leaving_55 (fun x hx => (htab x hx).elim) (Nat.le_of_ble_eq_true rfl) (Nat.le_of_ble_eq_true rfl) (Nat.le_of_ble_eq_true rfl) (Nat.le_of_ble_eq_true rfl) hlocks (fun t9 hvm9 hz9 hk9 => x_thr hK hP hD hS (⟨rfl, Or.inl c_1⟩) hvm9 hz9 hk9) hS.2.2 (Nat.le_of_ble_eq_true rfl) (Nat.le_of_ble_eq_true rfl)
  · refine lv_iload_n hx hb dX1_leaving_4 rfl (lv_at hl 1 rfl) ?_
    refine lv_bipush (v := 32) hx hb dX1_leaving_5 (by decide) ?_
    refine lv_icmp_lt (tgt := 14) hx hb dX1_leaving_7 (by decide) (fun c_3 => ?_) (fun c_3 => ?_)
    · refine lv_aload_n hx hb dX1_leaving_14 rfl (lv_at hl 0 rfl) ?_
      refine x_callq (va_runV (As := []) (rest := []) ⟨hx, hb, hml, hown, hts⟩ (k_X1_firstInOrder l D ax ar ad cO H.size σ) (cwV 0 hts gX1_leaving_X1_firstInOrder rfl rfl rfl (by decide +kernel) ⟨Nat.le_of_ble_eq_true rfl, Nat.le_of_ble_eq_true rfl⟩) (xPreV xE_ok hE hK hA hP hD hS (q0 := 0) (ci := 1) rfl rfl rfl) rfl rfl hl.1 rfl (lv_room (Nat.le_of_ble_eq_true rfl)) dX1_leaving_15 ⟨Nat.le_of_ble_eq_true rfl, Nat.le_of_ble_eq_true rfl⟩) hD hS hA (fun r u H locs hp hP hD hS => ?_)
      obtain ⟨rfl, hu9⟩ := hp
      rw [hu9] at hP hD
      refine x_astore_nQ (lv' := [(2, va_rf ((nxt σ none).map ad)), (0, .ref ax), (1, .int t)]) hx hb dX1_leaving_18 rfl hl (by decide) rfl (fun ls hl => ?_)
      refine lv_iconst (v := 0) hx hb dX1_leaving_19 (by decide) ?_
      refine lv_istore_n (lv' := [(3, .int 0), (2, va_rf ((nxt σ none).map ad)), (0, .ref ax), (1, .int t)]) hx hb dX1_leaving_20 rfl hl (by decide) (by cases (nxt σ none) <;> rfl) (fun ls hl => ?_)
      have loop : ∀ (n j : Nat) (ls : Array Slot) (H : Heap) (locs : List Loc), j ≤ N → N - j < n → va_P D vwCl (cW ax ar ad cO σ) H → va_D A (cW ax ar ad cO σ) → va_S A s.heap H locs → lv_has ls 4 [(0, .ref ax), (1, .int t), (2, va_rf ((nth σ j).map ad)), (3, .int (nI j))] → W p l e (headSpec wsX1_leaving ({ frames := 6, cells := 1, slots := 6, locals := 150 } : Room)).room s m [.ref ax, .int t].toArray below meth c H locs 0 0 (vx_MQ below (va_Qi (fun (r : Int32) (u : St) => ¬ t < 0 ∧ (∃ k, nth σ N = some k ∧ r = gS σ 0 k) ∧ u = σ) (xB D (cT cO) (cW ax ar ad cO) A) A) (xXC D (cT cO) (cW ax ar ad cO) A σ (fun En => En = xIO ∧ (t < 0 ∨ nth σ N = none))) [.ref ax, .int t].toArray s 1 6 A) (F0 m 21 ls []) := by
        intro n
        induction n with
        | zero =>
          intro j ls H locs h1 h2
          exact absurd h2 (by omega)
        | succ n ih =>
          intro j ls H locs hj hn hP hD hS hl
          refine lv_iload_n hx hb dX1_leaving_21 rfl (lv_at hl 3 rfl) ?_
          refine lv_iload_n hx hb dX1_leaving_22 rfl (lv_at hl 1 rfl) ?_
          refine x_icmp_ge (tgt := 42) hx hb dX1_leaving_23 (by decide) (fun c_4 => ?_) (fun c_4 => ?_)
          · have hjN : j = N := by
              rcases Nat.lt_or_ge j N with q | q
              · exact absurd (h1 j q).1 (fun z => c_4 z)
              · omega
            subst hjN
            refine x_aload_nQ hx hb dX1_leaving_42 rfl (lv_at hl 2 rfl) ?_
            refine x_ifnonnullQ (tgt := 56) hx hb dX1_leaving_43 (by decide) (fun k_6 c_5 => ?_) (fun c_5 => ?_)
            · have hk_6 : k_6 < 32 := nth_lt c_5
              refine x_aload_nQ hx hb dX1_leaving_56 rfl (lv_at hl 2 rfl) ?_
              refine W.eq (g2 := F0 m 57 ls [.ref (ad k_6)]) (by rw [c_5]; rfl) ?_
              refine s_get hx hb hts hi0 hown hK hE hP hk_6 0 (by decide) rfl (v := .int (gS σ 0 k_6)) rfl dX1_leaving_57 (fun _ h => h) ?_
              refine vx_ret ?_
              refine W.widen (k := 1) (n := 6) (by decide) (by decide) ?_
              exact x_iret hx hb hr hlocks hK (σ) hP hD hS ⟨c_1, ⟨k_6, c_5, rfl⟩, rfl⟩ dX1_leaving_60
            · obtain ⟨sa, hsa⟩ := hE.1.2.1 (107, "the order has no such place") (List.mem_of_getElem? (i := 4) rfl)
              exact vx_throwS (A := A) (text := "the order has no such place") (names := ["java/lang/RuntimeException", "java/lang/Exception"]) (sa := sa) hx hb hfl hown (by decide +kernel) (by decide +kernel) (hts _ (List.mem_of_getElem? (i := 1) rfl)) (hts _ (List.mem_of_getElem? (i := 2) rfl)) hsa (hat_IO (fun w h => hts w (List.mem_cons_of_mem _ (List.mem_append_right _ h))) hE.1) hgd_IO hE.2.1 hE.2.2 hS (hl.1.trans hml.symm) dX1_leaving_46 dX1_leaving_49 dX1_leaving_50 dX1_leaving_52 dX1_leaving_55 (fun x hx => (htab x hx).elim) (Nat.le_of_ble_eq_true rfl) (Nat.le_of_ble_eq_true rfl) (Nat.le_of_ble_eq_true rfl) (Nat.le_of_ble_eq_true rfl) hlocks (fun t9 hvm9 hz9 hk9 => x_thr hK hP hD hS (⟨rfl, Or.inr c_5⟩) hvm9 hz9 hk9) hS.2.2 (Nat.le_of_ble_eq_true rfl) (Nat.le_of_ble_eq_true rfl)
          · refine x_aload_nQ hx hb dX1_leaving_26 rfl (lv_at hl 2 rfl) ?_
            refine x_ifnullQ (tgt := 42) hx hb dX1_leaving_27 (by decide) (fun c_7 => ?_) (fun k_8 c_7 => ?_)
            · have hjN : j = N := by
                rcases Nat.lt_or_ge j N with q | q
                · exact absurd (h1 j q).2 (fun z => z c_7)
                · omega
              subst hjN
              refine x_aload_nQ hx hb dX1_leaving_42 rfl (lv_at hl 2 rfl) ?_
              refine W.eq (g2 := F0 m 43 ls [.null]) (by rw [c_7]; rfl) ?_
              refine lv_ifnonnullN hx hb dX1_leaving_43 ?_
              obtain ⟨sa, hsa⟩ := hE.1.2.1 (107, "the order has no such place") (List.mem_of_getElem? (i := 4) rfl)
              exact vx_throwS (A := A) (text := "the order has no such place") (names := ["java/lang/RuntimeException", "java/lang/Exception"]) (sa := sa) hx hb hfl hown (by decide +kernel) (by decide +kernel) (hts _ (List.mem_of_getElem? (i := 1) rfl)) (hts _ (List.mem_of_getElem? (i := 2) rfl)) hsa (hat_IO (fun w h => hts w (List.mem_cons_of_mem _ (List.mem_append_right _ h))) hE.1) hgd_IO hE.2.1 hE.2.2 hS (hl.1.trans hml.symm) dX1_leaving_46 dX1_leaving_49 dX1_leaving_50 dX1_leaving_52 dX1_leaving_55 (fun x hx => (htab x hx).elim) (Nat.le_of_ble_eq_true rfl) (Nat.le_of_ble_eq_true rfl) (Nat.le_of_ble_eq_true rfl) (Nat.le_of_ble_eq_true rfl) hlocks (fun t9 hvm9 hz9 hk9 => x_thr hK hP hD hS (⟨rfl, Or.inr c_7⟩) hvm9 hz9 hk9) hS.2.2 (Nat.le_of_ble_eq_true rfl) (Nat.le_of_ble_eq_true rfl)
            · have hk_8 : k_8 < 32 := nth_lt c_7
              refine lv_aload_n hx hb dX1_leaving_30 rfl (lv_at hl 0 rfl) ?_
              refine x_aload_nQ hx hb dX1_leaving_31 rfl (lv_at hl 2 rfl) ?_
              refine W.eq (g2 := F0 m 32 ls [.ref (ad k_8), .ref ax]) (by rw [c_7]; rfl) ?_
              refine x_callq (va_runV (As := [.ref (ad k_8)]) (rest := []) ⟨hx, hb, hml, hown, hts⟩ (k_X1_nextInOrder l D ax ar ad cO H.size σ (some k_8) (fun _ h => by cases h; exact hk_8)) (cwV 1 hts gX1_leaving_X1_nextInOrder rfl rfl rfl (by decide +kernel) ⟨Nat.le_of_ble_eq_true rfl, Nat.le_of_ble_eq_true rfl⟩) (xPreV xE_ok hE hK hA hP hD hS (q0 := 0) (ci := 1) rfl rfl rfl) rfl rfl hl.1 rfl (lv_room (Nat.le_of_ble_eq_true rfl)) dX1_leaving_32 ⟨Nat.le_of_ble_eq_true rfl, Nat.le_of_ble_eq_true rfl⟩) hD hS hA (fun r u H locs hp hP hD hS => ?_)
              obtain ⟨rfl, hu9⟩ := hp
              rw [hu9] at hP hD
              refine x_astore_nQ (lv' := [(2, va_rf ((nxt σ (some k_8)).map ad)), (0, .ref ax), (1, .int t), (3, .int (nI j))]) hx hb dX1_leaving_35 rfl hl (by decide) rfl (fun ls hl => ?_)
              refine lv_iinc (v := (nI j) + 1) (lv' := [(3, .int ((nI j) + 1)), (2, va_rf ((nxt σ (some k_8)).map ad)), (0, .ref ax), (1, .int t)]) hx hb dX1_leaving_36 hl (k := 3) rfl rfl (by decide) (by cases (nxt σ (some k_8)) <;> rfl) (fun ls hl => ?_)
              refine lv_goto (tgt := 21) hx hb dX1_leaving_39 (by decide) ?_
              have hlt : j < N := by
                rcases Nat.lt_or_ge j N with q | q
                · exact q
                · have hjN : j = N := by omega
                  subst hjN
                  rcases h2.1 with h9 | h9
                  · exact absurd c_4 h9
                  · rw [c_7] at h9
                    cases h9
              have e9 : nth σ (j + 1) = nxt σ (some k_8) := by rw [nth_s, c_7]
              exact ih (j + 1) ls H locs hlt (by omega) hP hD hS (by rw [nI_succ, e9]; exact lv_sub hl [2, 3, 1, 0] rfl)
      exact loop (N + 1) 0 _ _ _ (Nat.zero_le _) (by omega) hP hD hS (lv_sub hl [2, 3, 1, 0] rfl)
    · refine lv_null hx hb dX1_leaving_10 ?_
      refine lv_goto (tgt := 18) hx hb dX1_leaving_11 (by decide) ?_
      refine lv_astore_nN (lv' := [(2, .null), (0, .ref ax), (1, .int t)]) hx hb dX1_leaving_18 rfl hl (by decide) rfl (fun ls hl => ?_)
      refine lv_iconst (v := 0) hx hb dX1_leaving_19 (by decide) ?_
      refine lv_istore_n (lv' := [(3, .int 0), (2, .null), (0, .ref ax), (1, .int t)]) hx hb dX1_leaving_20 rfl hl (by decide) rfl (fun ls hl => ?_)
      refine lv_iload_n hx hb dX1_leaving_21 rfl (lv_at hl 0 rfl) ?_
      refine lv_iload_n hx hb dX1_leaving_22 rfl (lv_at hl 3 rfl) ?_
      refine x_icmp_ge (tgt := 42) hx hb dX1_leaving_23 (by decide) (fun c_9 => ?_) (fun c_9 => ?_)
      · refine lv_aload_nN hx hb dX1_leaving_42 rfl (lv_at hl 1 rfl) ?_
        refine lv_ifnonnullN hx hb dX1_leaving_43 ?_
        obtain ⟨sa, hsa⟩ := hE.1.2.1 (107, "the order has no such place") (List.mem_of_getElem? (i := 4) rfl)
        exact vx_throwS (A := A) (text := "the order has no such place") (names := ["java/lang/RuntimeException", "java/lang/Exception"]) (sa := sa) hx hb hfl hown (by decide +kernel) (by decide +kernel) (hts _ (List.mem_of_getElem? (i := 1) rfl)) (hts _ (List.mem_of_getElem? (i := 2) rfl)) hsa (hat_IO (fun w h => hts w (List.mem_cons_of_mem _ (List.mem_append_right _ h))) hE.1) hgd_IO hE.2.1 hE.2.2 hS (hl.1.trans hml.symm) dX1_leaving_46 dX1_leaving_49 dX1_leaving_50 dX1_leaving_52 dX1_leaving_55 (fun x hx => (htab x hx).elim) (Nat.le_of_ble_eq_true rfl) (Nat.le_of_ble_eq_true rfl) (Nat.le_of_ble_eq_true rfl) (Nat.le_of_ble_eq_true rfl) hlocks (fun t9 hvm9 hz9 hk9 => x_thr hK hP hD hS (⟨rfl, Or.inr (h2.2 c_3)⟩) hvm9 hz9 hk9) hS.2.2 (Nat.le_of_ble_eq_true rfl) (Nat.le_of_ble_eq_true rfl)
      · refine lv_aload_nN hx hb dX1_leaving_26 rfl (lv_at hl 1 rfl) ?_
        refine lv_ifnullN (tgt := 42) hx hb dX1_leaving_27 (by decide) ?_
        refine lv_aload_nN hx hb dX1_leaving_42 rfl (lv_at hl 1 rfl) ?_
        refine lv_ifnonnullN hx hb dX1_leaving_43 ?_
        obtain ⟨sa, hsa⟩ := hE.1.2.1 (107, "the order has no such place") (List.mem_of_getElem? (i := 4) rfl)
        exact vx_throwS (A := A) (text := "the order has no such place") (names := ["java/lang/RuntimeException", "java/lang/Exception"]) (sa := sa) hx hb hfl hown (by decide +kernel) (by decide +kernel) (hts _ (List.mem_of_getElem? (i := 1) rfl)) (hts _ (List.mem_of_getElem? (i := 2) rfl)) hsa (hat_IO (fun w h => hts w (List.mem_cons_of_mem _ (List.mem_append_right _ h))) hE.1) hgd_IO hE.2.1 hE.2.2 hS (hl.1.trans hml.symm) dX1_leaving_46 dX1_leaving_49 dX1_leaving_50 dX1_leaving_52 dX1_leaving_55 (fun x hx => (htab x hx).elim) (Nat.le_of_ble_eq_true rfl) (Nat.le_of_ble_eq_true rfl) (Nat.le_of_ble_eq_true rfl) (Nat.le_of_ble_eq_true rfl) hlocks (fun t9 hvm9 hz9 hk9 => x_thr hK hP hD hS (⟨rfl, Or.inr (h2.2 c_3)⟩) hvm9 hz9 hk9) hS.2.2 (Nat.le_of_ble_eq_true rfl) (Nat.le_of_ble_eq_true rfl)
set_option maxHeartbeats 4000000 in
set_option maxRecDepth 100000 in
theorem k_X1_fetch (l : Launch) (D : va_G) (ax ar : Nat) (ad : Nat → Nat) (cO : ClassId) (sz : Nat) (σ : St) (t sz9 pr lf : Int32) (hfl : l.stackTraces = false) : vx_Met l yX1_fetch wsX1_fetch ({ frames := 7, cells := 4, slots := 24, locals := 180 } : Room) (va_Pc [.ref ax, .int t, .int sz9, .int pr, .int lf] (xPre D (cT cO) xE (cW ax ar ad cO) σ sz)) (va_Qi (fun (r : Int32) (u : St) => isT t = true ∧ (inR sz9 1 1000 && inR pr 0 1000 && inR lf 1 10000) = true ∧ (∀ k, k < 32 → t = nI k → r = (cFetch σ k sz9 pr lf).1 ∧ u = (cFetch σ k sz9 pr lf).2)) (xB D (cT cO) (cW ax ar ad cO) (va_A (cW ax ar ad cO σ) sz)) (va_A (cW ax ar ad cO σ) sz)) (xXC D (cT cO) (cW ax ar ad cO) (va_A (cW ax ar ad cO σ) sz) σ (fun En => (En = xIO ∧ isT t = false) ∨ (En = xIA ∧ isT t = true ∧ (inR sz9 1 1000 && inR pr 0 1000 && inR lf 1 10000) = false))) 4 24 (va_A (cW ax ar ad cO σ) sz) := by
  refine xxOpen (w := (cW ax ar ad cO)) (σ := σ) (cc := cX1_fetch) (maxL := 6) (ret := some .int) (QQ := fun A => va_Qi (fun (r : Int32) (u : St) => isT t = true ∧ (inR sz9 1 1000 && inR pr 0 1000 && inR lf 1 10000) = true ∧ (∀ k, k < 32 → t = nI k → r = (cFetch σ k sz9 pr lf).1 ∧ u = (cFetch σ k sz9 pr lf).2)) (xB D (cT cO) (cW ax ar ad cO) A) A) (XX := fun A => xXC D (cT cO) (cW ax ar ad cO) A σ (fun En => (En = xIO ∧ isT t = false) ∨ (En = xIA ∧ isT t = true ∧ (inR sz9 1 1000 && inR pr 0 1000 && inR lf 1 10000) = false))) (by decide) rfl (Nat.le_of_ble_eq_true rfl) ?_
  intro p e s m below meth c A hx hb hr hml hown hts hlocks htab hK hE hA hP hD hS ls hl
  have hl : lv_has ls 6 [(0, .ref ax), (1, .int t), (2, .int sz9), (3, .int pr), (4, .int lf)] := hl
  have hown : s.vm.findClass RX1 = some m.cls := hown
  have hi0 : ∀ w ∈ wsX00, w ∈ wsX1_fetch := (fun _ h => List.mem_cons_of_mem _ (List.mem_append_left _ (List.mem_append_left _ (List.mem_append_left _ (List.mem_append_right _ h)))))
  have hi1 : ∀ w ∈ wsX10, w ∈ wsX1_fetch := (fun _ h => List.mem_cons_of_mem _ (List.mem_append_left _ (List.mem_append_left _ (List.mem_append_right _ h))))
  generalize hH : s.heap = H at hP
  have hS : va_S A s.heap H [] := by rw [← hH]; exact va_S.rf
  generalize hlo : ([] : List Loc) = locs at hS
  refine lv_aload_n hx hb dX1_fetch_0 rfl (lv_at hl 0 rfl) ?_
  refine lv_iload_n hx hb dX1_fetch_1 rfl (lv_at hl 1 rfl) ?_
  refine xx_callq (vx_runV (As := [.int t]) (rest := []) ⟨hx, hb, hml, hown, hts⟩ (k_X1_slotOf l D ax ar ad cO H.size σ t hfl) (cwV 1 hts gX1_fetch_X1_slotOf rfl rfl rfl (by decide +kernel) ⟨Nat.le_of_ble_eq_true rfl, Nat.le_of_ble_eq_true rfl⟩) (xPreV xE_ok hE hK hA hP hD hS (q0 := 0) (ci := 1) rfl rfl rfl) rfl rfl hl.1 rfl (lv_room (Nat.le_of_ble_eq_true rfl)) dX1_fetch_2 ⟨Nat.le_of_ble_eq_true rfl, Nat.le_of_ble_eq_true rfl⟩) hD hS hA (fun En ce q9 H locs hxc hP hS hq9 hv9 hcl9 => ?_) (fun r u H locs hp hP hD hS => ?_)
  · exact xx_out htab hlocks hK hq9 hv9 hcl9 hP hD hS (Or.inl hxc) (Nat.le_of_ble_eq_true rfl) (Nat.le_of_ble_eq_true rfl)
  obtain ⟨hT, hq, hu9⟩ := hp
  rw [hu9] at hP hD
  obtain ⟨k, hk, rfl⟩ := isT_nI hT
  obtain rfl := hq k hk rfl
  have hl : lv_has ls 6 [(0, .ref ax), (1, .int (nI k)), (2, .int sz9), (3, .int pr), (4, .int lf)] := hl
  refine W.eq (g2 := F0 m 5 ls [.ref (ad k)]) rfl ?_
  · refine lv_astore (lv' := [(5, .ref (ad k)), (0, .ref ax), (1, .int (nI k)), (2, .int sz9), (3, .int pr), (4, .int lf)]) hx hb dX1_fetch_5 hl (by decide) rfl (fun ls hl => ?_)
    refine lv_iload_n hx hb dX1_fetch_7 rfl (lv_at hl 3 rfl) ?_
    refine lv_iconst (v := 1) hx hb dX1_fetch_8 (by decide) ?_
    refine lv_sipush (v := 1000) hx hb dX1_fetch_9 (by decide) ?_
    refine xx_callv (vx_runS (As := [.int sz9, .int 1, .int 1000]) (rest := []) ⟨hx, hb, hml, hown, hts⟩ (k_X1_requireWithin l D ax ar ad cO H.size σ sz9 1 1000 hfl) (va_cwS 3 hts gX1_fetch_X1_requireWithin rfl rfl rfl (by decide +kernel) ⟨Nat.le_of_ble_eq_true rfl, Nat.le_of_ble_eq_true rfl⟩) (xPreS xE_ok hE hK hA hP hD hS) rfl rfl hl.1 rfl (lv_room (Nat.le_of_ble_eq_true rfl)) dX1_fetch_12 ⟨Nat.le_of_ble_eq_true rfl, Nat.le_of_ble_eq_true rfl⟩) hD hS hA (fun En ce q9 H locs hxc hP hS hq9 hv9 hcl9 => ?_) (fun u H locs hp hP hD hS => ?_)
    · exact xx_out htab hlocks hK hq9 hv9 hcl9 hP hD hS (Or.inr ⟨hxc.1, hT, by rw [hxc.2]; simp⟩) (Nat.le_of_ble_eq_true rfl) (Nat.le_of_ble_eq_true rfl)
    obtain ⟨v_1, hu9⟩ := hp
    rw [hu9] at hP hD
    · refine lv_iload_n hx hb dX1_fetch_15 rfl (lv_at hl 4 rfl) ?_
      refine lv_iconst (v := 0) hx hb dX1_fetch_16 (by decide) ?_
      refine lv_sipush (v := 1000) hx hb dX1_fetch_17 (by decide) ?_
      refine xx_callv (vx_runS (As := [.int pr, .int 0, .int 1000]) (rest := []) ⟨hx, hb, hml, hown, hts⟩ (k_X1_requireWithin l D ax ar ad cO H.size σ pr 0 1000 hfl) (va_cwS 3 hts gX1_fetch_X1_requireWithin rfl rfl rfl (by decide +kernel) ⟨Nat.le_of_ble_eq_true rfl, Nat.le_of_ble_eq_true rfl⟩) (xPreS xE_ok hE hK hA hP hD hS) rfl rfl hl.1 rfl (lv_room (Nat.le_of_ble_eq_true rfl)) dX1_fetch_20 ⟨Nat.le_of_ble_eq_true rfl, Nat.le_of_ble_eq_true rfl⟩) hD hS hA (fun En ce q9 H locs hxc hP hS hq9 hv9 hcl9 => ?_) (fun u H locs hp hP hD hS => ?_)
      · exact xx_out htab hlocks hK hq9 hv9 hcl9 hP hD hS (Or.inr ⟨hxc.1, hT, by rw [hxc.2]; simp [v_1]⟩) (Nat.le_of_ble_eq_true rfl) (Nat.le_of_ble_eq_true rfl)
      obtain ⟨v_2, hu9⟩ := hp
      rw [hu9] at hP hD
      · refine lv_iload hx hb dX1_fetch_23 (lv_at hl 5 rfl) ?_
        refine lv_iconst (v := 1) hx hb dX1_fetch_25 (by decide) ?_
        refine lv_sipush (v := 10000) hx hb dX1_fetch_26 (by decide) ?_
        refine xx_callv (vx_runS (As := [.int lf, .int 1, .int 10000]) (rest := []) ⟨hx, hb, hml, hown, hts⟩ (k_X1_requireWithin l D ax ar ad cO H.size σ lf 1 10000 hfl) (va_cwS 3 hts gX1_fetch_X1_requireWithin rfl rfl rfl (by decide +kernel) ⟨Nat.le_of_ble_eq_true rfl, Nat.le_of_ble_eq_true rfl⟩) (xPreS xE_ok hE hK hA hP hD hS) rfl rfl hl.1 rfl (lv_room (Nat.le_of_ble_eq_true rfl)) dX1_fetch_29 ⟨Nat.le_of_ble_eq_true rfl, Nat.le_of_ble_eq_true rfl⟩) hD hS hA (fun En ce q9 H locs hxc hP hS hq9 hv9 hcl9 => ?_) (fun u H locs hp hP hD hS => ?_)
        · exact xx_out htab hlocks hK hq9 hv9 hcl9 hP hD hS (Or.inr ⟨hxc.1, hT, by rw [hxc.2]; simp [v_1, v_2]⟩) (Nat.le_of_ble_eq_true rfl) (Nat.le_of_ble_eq_true rfl)
        obtain ⟨v_3, hu9⟩ := hp
        rw [hu9] at hP hD
        · refine lv_aload hx hb dX1_fetch_32 (lv_at hl 0 rfl) ?_
          refine s_get hx hb hts hi0 hown hK hE hP hk 1 (by decide) rfl (v := .int (bI (gB σ 1 k))) rfl dX1_fetch_34 (fun _ h => h) ?_
          refine x_ifeq (tgt := 67) hx hb dX1_fetch_37 (by decide) (fun c_4 => ?_) (fun c_4 => ?_)
          · have hh : (gB σ 1 k && !ended σ k && decide (gS σ 3 k = sz9)) = false := by simp [c_4]
            refine lv_aload_n hx hb dX1_fetch_67 rfl (lv_at hl 1 rfl) ?_
            refine lv_iload_n hx hb dX1_fetch_68 rfl (lv_at hl 4 rfl) ?_
            refine x_callv (va_runV (As := [.int pr]) (rest := []) ⟨hx, hb, hml, hown, hts⟩ (k_X1_countMiss l D ax ar ad cO H.size σ pr) (cwV 1 hts gX1_fetch_X1_countMiss rfl rfl rfl (by decide +kernel) ⟨Nat.le_of_ble_eq_true rfl, Nat.le_of_ble_eq_true rfl⟩) (xPreV xE_ok hE hK hA hP hD hS (q0 := 0) (ci := 1) rfl rfl rfl) rfl rfl hl.1 rfl (lv_room (Nat.le_of_ble_eq_true rfl)) dX1_fetch_69 ⟨Nat.le_of_ble_eq_true rfl, Nat.le_of_ble_eq_true rfl⟩) hD hS hA (fun u H locs hp hP hD hS => ?_)
            rw [hp] at hP hD
            refine lv_aload_n hx hb dX1_fetch_72 rfl (lv_at hl 1 rfl) ?_
            refine lv_aload hx hb dX1_fetch_73 (lv_at hl 0 rfl) ?_
            refine lv_iload_n hx hb dX1_fetch_75 rfl (lv_at hl 3 rfl) ?_
            refine lv_iload_n hx hb dX1_fetch_76 rfl (lv_at hl 4 rfl) ?_
            refine lv_iload hx hb dX1_fetch_77 (lv_at hl 5 rfl) ?_
            refine x_calli (va_runV (As := [.ref (ad k), .int sz9, .int pr, .int lf]) (rest := []) ⟨hx, hb, hml, hown, hts⟩ (k_X1_letInIfPossible l D ax ar ad cO H.size (cMiss σ pr) sz9 pr lf hk) (cwV 4 hts gX1_fetch_X1_letInIfPossible rfl rfl rfl (by decide +kernel) ⟨Nat.le_of_ble_eq_true rfl, Nat.le_of_ble_eq_true rfl⟩) (xPreV xE_ok hE hK hA hP hD hS (q0 := 0) (ci := 1) rfl rfl rfl) rfl rfl hl.1 rfl (lv_room (Nat.le_of_ble_eq_true rfl)) dX1_fetch_79 ⟨Nat.le_of_ble_eq_true rfl, Nat.le_of_ble_eq_true rfl⟩) hD hS hA (fun r u H locs hp hP hD hS => ?_)
            obtain ⟨rfl, hu9⟩ := hp
            rw [hu9] at hP hD
            refine x_ifeq (tgt := 89) hx hb dX1_fetch_82 (by decide) (fun c_5 => ?_) (fun c_5 => ?_)
            · refine lv_iconst (v := 2) hx hb dX1_fetch_89 (by decide) ?_
              refine vx_ret ?_
              refine W.widen (k := 4) (n := 24) (by decide) (by decide) ?_
              exact x_iret hx hb hr hlocks hK ((cLetIn (cMiss σ pr) k sz9 pr lf).2) hP hD hS ⟨hT, by simp [v_1, v_2, v_3], fun j hj e9 => by rw [← nI_inj32 hk hj e9]; simp [cFetch, hh, c_5]⟩ dX1_fetch_90
            · refine lv_iconst (v := 1) hx hb dX1_fetch_85 (by decide) ?_
              refine lv_goto (tgt := 90) hx hb dX1_fetch_86 (by decide) ?_
              refine vx_ret ?_
              refine W.widen (k := 4) (n := 24) (by decide) (by decide) ?_
              exact x_iret hx hb hr hlocks hK ((cLetIn (cMiss σ pr) k sz9 pr lf).2) hP hD hS ⟨hT, by simp [v_1, v_2, v_3], fun j hj e9 => by rw [← nI_inj32 hk hj e9]; simp [cFetch, hh, c_5]⟩ dX1_fetch_90
          · refine lv_aload_n hx hb dX1_fetch_40 rfl (lv_at hl 1 rfl) ?_
            refine lv_aload hx hb dX1_fetch_41 (lv_at hl 0 rfl) ?_
            refine x_calli (va_runV (As := [.ref (ad k)]) (rest := []) ⟨hx, hb, hml, hown, hts⟩ (k_X1_hasEnded l D ax ar ad cO H.size σ hk) (cwV 1 hts gX1_fetch_X1_hasEnded rfl rfl rfl (by decide +kernel) ⟨Nat.le_of_ble_eq_true rfl, Nat.le_of_ble_eq_true rfl⟩) (xPreV xE_ok hE hK hA hP hD hS (q0 := 0) (ci := 1) rfl rfl rfl) rfl rfl hl.1 rfl (lv_room (Nat.le_of_ble_eq_true rfl)) dX1_fetch_43 ⟨Nat.le_of_ble_eq_true rfl, Nat.le_of_ble_eq_true rfl⟩) hD hS hA (fun r u H locs hp hP hD hS => ?_)
            obtain ⟨rfl, hu9⟩ := hp
            rw [hu9] at hP hD
            refine x_ifne (tgt := 67) hx hb dX1_fetch_46 (by decide) (fun c_6 => ?_) (fun c_6 => ?_)
            · have hh : (gB σ 1 k && !ended σ k && decide (gS σ 3 k = sz9)) = false := by simp [c_6]
              refine lv_aload_n hx hb dX1_fetch_67 rfl (lv_at hl 1 rfl) ?_
              refine lv_iload_n hx hb dX1_fetch_68 rfl (lv_at hl 4 rfl) ?_
              refine x_callv (va_runV (As := [.int pr]) (rest := []) ⟨hx, hb, hml, hown, hts⟩ (k_X1_countMiss l D ax ar ad cO H.size σ pr) (cwV 1 hts gX1_fetch_X1_countMiss rfl rfl rfl (by decide +kernel) ⟨Nat.le_of_ble_eq_true rfl, Nat.le_of_ble_eq_true rfl⟩) (xPreV xE_ok hE hK hA hP hD hS (q0 := 0) (ci := 1) rfl rfl rfl) rfl rfl hl.1 rfl (lv_room (Nat.le_of_ble_eq_true rfl)) dX1_fetch_69 ⟨Nat.le_of_ble_eq_true rfl, Nat.le_of_ble_eq_true rfl⟩) hD hS hA (fun u H locs hp hP hD hS => ?_)
              rw [hp] at hP hD
              refine lv_aload_n hx hb dX1_fetch_72 rfl (lv_at hl 1 rfl) ?_
              refine lv_aload hx hb dX1_fetch_73 (lv_at hl 0 rfl) ?_
              refine lv_iload_n hx hb dX1_fetch_75 rfl (lv_at hl 3 rfl) ?_
              refine lv_iload_n hx hb dX1_fetch_76 rfl (lv_at hl 4 rfl) ?_
              refine lv_iload hx hb dX1_fetch_77 (lv_at hl 5 rfl) ?_
              refine x_calli (va_runV (As := [.ref (ad k), .int sz9, .int pr, .int lf]) (rest := []) ⟨hx, hb, hml, hown, hts⟩ (k_X1_letInIfPossible l D ax ar ad cO H.size (cMiss σ pr) sz9 pr lf hk) (cwV 4 hts gX1_fetch_X1_letInIfPossible rfl rfl rfl (by decide +kernel) ⟨Nat.le_of_ble_eq_true rfl, Nat.le_of_ble_eq_true rfl⟩) (xPreV xE_ok hE hK hA hP hD hS (q0 := 0) (ci := 1) rfl rfl rfl) rfl rfl hl.1 rfl (lv_room (Nat.le_of_ble_eq_true rfl)) dX1_fetch_79 ⟨Nat.le_of_ble_eq_true rfl, Nat.le_of_ble_eq_true rfl⟩) hD hS hA (fun r u H locs hp hP hD hS => ?_)
              obtain ⟨rfl, hu9⟩ := hp
              rw [hu9] at hP hD
              refine x_ifeq (tgt := 89) hx hb dX1_fetch_82 (by decide) (fun c_7 => ?_) (fun c_7 => ?_)
              · refine lv_iconst (v := 2) hx hb dX1_fetch_89 (by decide) ?_
                refine vx_ret ?_
                refine W.widen (k := 4) (n := 24) (by decide) (by decide) ?_
                exact x_iret hx hb hr hlocks hK ((cLetIn (cMiss σ pr) k sz9 pr lf).2) hP hD hS ⟨hT, by simp [v_1, v_2, v_3], fun j hj e9 => by rw [← nI_inj32 hk hj e9]; simp [cFetch, hh, c_7]⟩ dX1_fetch_90
              · refine lv_iconst (v := 1) hx hb dX1_fetch_85 (by decide) ?_
                refine lv_goto (tgt := 90) hx hb dX1_fetch_86 (by decide) ?_
                refine vx_ret ?_
                refine W.widen (k := 4) (n := 24) (by decide) (by decide) ?_
                exact x_iret hx hb hr hlocks hK ((cLetIn (cMiss σ pr) k sz9 pr lf).2) hP hD hS ⟨hT, by simp [v_1, v_2, v_3], fun j hj e9 => by rw [← nI_inj32 hk hj e9]; simp [cFetch, hh, c_7]⟩ dX1_fetch_90
            · refine lv_aload hx hb dX1_fetch_49 (lv_at hl 0 rfl) ?_
              refine s_get hx hb hts hi0 hown hK hE hP hk 3 (by decide) rfl (v := .int (gS σ 3 k)) rfl dX1_fetch_51 (fun _ h => h) ?_
              refine lv_iload_n hx hb dX1_fetch_54 rfl (lv_at hl 3 rfl) ?_
              refine lv_icmp_ne (tgt := 67) hx hb dX1_fetch_55 (by decide) (fun c_8 => ?_) (fun c_8 => ?_)
              · have hh : (gB σ 1 k && !ended σ k && decide (gS σ 3 k = sz9)) = false := by simp [c_8]
                refine lv_aload_n hx hb dX1_fetch_67 rfl (lv_at hl 1 rfl) ?_
                refine lv_iload_n hx hb dX1_fetch_68 rfl (lv_at hl 4 rfl) ?_
                refine x_callv (va_runV (As := [.int pr]) (rest := []) ⟨hx, hb, hml, hown, hts⟩ (k_X1_countMiss l D ax ar ad cO H.size σ pr) (cwV 1 hts gX1_fetch_X1_countMiss rfl rfl rfl (by decide +kernel) ⟨Nat.le_of_ble_eq_true rfl, Nat.le_of_ble_eq_true rfl⟩) (xPreV xE_ok hE hK hA hP hD hS (q0 := 0) (ci := 1) rfl rfl rfl) rfl rfl hl.1 rfl (lv_room (Nat.le_of_ble_eq_true rfl)) dX1_fetch_69 ⟨Nat.le_of_ble_eq_true rfl, Nat.le_of_ble_eq_true rfl⟩) hD hS hA (fun u H locs hp hP hD hS => ?_)
                rw [hp] at hP hD
                refine lv_aload_n hx hb dX1_fetch_72 rfl (lv_at hl 1 rfl) ?_
                refine lv_aload hx hb dX1_fetch_73 (lv_at hl 0 rfl) ?_
                refine lv_iload_n hx hb dX1_fetch_75 rfl (lv_at hl 3 rfl) ?_
                refine lv_iload_n hx hb dX1_fetch_76 rfl (lv_at hl 4 rfl) ?_
                refine lv_iload hx hb dX1_fetch_77 (lv_at hl 5 rfl) ?_
                refine x_calli (va_runV (As := [.ref (ad k), .int sz9, .int pr, .int lf]) (rest := []) ⟨hx, hb, hml, hown, hts⟩ (k_X1_letInIfPossible l D ax ar ad cO H.size (cMiss σ pr) sz9 pr lf hk) (cwV 4 hts gX1_fetch_X1_letInIfPossible rfl rfl rfl (by decide +kernel) ⟨Nat.le_of_ble_eq_true rfl, Nat.le_of_ble_eq_true rfl⟩) (xPreV xE_ok hE hK hA hP hD hS (q0 := 0) (ci := 1) rfl rfl rfl) rfl rfl hl.1 rfl (lv_room (Nat.le_of_ble_eq_true rfl)) dX1_fetch_79 ⟨Nat.le_of_ble_eq_true rfl, Nat.le_of_ble_eq_true rfl⟩) hD hS hA (fun r u H locs hp hP hD hS => ?_)
                obtain ⟨rfl, hu9⟩ := hp
                rw [hu9] at hP hD
                refine x_ifeq (tgt := 89) hx hb dX1_fetch_82 (by decide) (fun c_9 => ?_) (fun c_9 => ?_)
                · refine lv_iconst (v := 2) hx hb dX1_fetch_89 (by decide) ?_
                  refine vx_ret ?_
                  refine W.widen (k := 4) (n := 24) (by decide) (by decide) ?_
                  exact x_iret hx hb hr hlocks hK ((cLetIn (cMiss σ pr) k sz9 pr lf).2) hP hD hS ⟨hT, by simp [v_1, v_2, v_3], fun j hj e9 => by rw [← nI_inj32 hk hj e9]; simp [cFetch, hh, c_9]⟩ dX1_fetch_90
                · refine lv_iconst (v := 1) hx hb dX1_fetch_85 (by decide) ?_
                  refine lv_goto (tgt := 90) hx hb dX1_fetch_86 (by decide) ?_
                  refine vx_ret ?_
                  refine W.widen (k := 4) (n := 24) (by decide) (by decide) ?_
                  exact x_iret hx hb hr hlocks hK ((cLetIn (cMiss σ pr) k sz9 pr lf).2) hP hD hS ⟨hT, by simp [v_1, v_2, v_3], fun j hj e9 => by rw [← nI_inj32 hk hj e9]; simp [cFetch, hh, c_9]⟩ dX1_fetch_90
              · refine lv_aload_n hx hb dX1_fetch_58 rfl (lv_at hl 1 rfl) ?_
                refine lv_aload hx hb dX1_fetch_59 (lv_at hl 0 rfl) ?_
                refine lv_iload_n hx hb dX1_fetch_61 rfl (lv_at hl 4 rfl) ?_
                refine x_callv (va_runV (As := [.ref (ad k), .int pr]) (rest := []) ⟨hx, hb, hml, hown, hts⟩ (k_X1_hit l D ax ar ad cO H.size σ pr hk) (cwV 2 hts gX1_fetch_X1_hit rfl rfl rfl (by decide +kernel) ⟨Nat.le_of_ble_eq_true rfl, Nat.le_of_ble_eq_true rfl⟩) (xPreV xE_ok hE hK hA hP hD hS (q0 := 0) (ci := 1) rfl rfl rfl) rfl rfl hl.1 rfl (lv_room (Nat.le_of_ble_eq_true rfl)) dX1_fetch_62 ⟨Nat.le_of_ble_eq_true rfl, Nat.le_of_ble_eq_true rfl⟩) hD hS hA (fun u H locs hp hP hD hS => ?_)
                rw [hp] at hP hD
                refine lv_iconst (v := 0) hx hb dX1_fetch_65 (by decide) ?_
                refine vx_ret ?_
                refine W.widen (k := 4) (n := 24) (by decide) (by decide) ?_
                exact x_iret hx hb hr hlocks hK (cHit σ k pr) hP hD hS ⟨hT, by simp [v_1, v_2, v_3], fun j hj e9 => by rw [← nI_inj32 hk hj e9]; simp [cFetch, c_4, c_6, c_8]⟩ dX1_fetch_66
