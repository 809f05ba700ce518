set_option maxHeartbeats 4000000 in
set_option maxRecDepth 100000 in
theorem k_X1_countThatWouldLeave (l : Launch) (D : va_G) (ax ar : Nat) (ad : Nat → Nat) (cO : ClassId) (sz : Nat) (σ : St) (sz9 : Int32) : Met l yX1_countThatWouldLeave wsX1_countThatWouldLeave ({ frames := 3, cells := 0, slots := 0, locals := 90 } : Room) (va_Pc [.ref ax, .int sz9] (xPre D (cT cO) xE (cW ax ar ad cO) σ sz)) (va_Qi (fun (r : Int32) (u : St) => r = cCount σ sz9 ∧ u = σ) (xB D (cT cO) (cW ax ar ad cO) (va_A (cW ax ar ad cO σ) sz)) (va_A (cW ax ar ad cO σ) sz)) 0 0 (va_A (cW ax ar ad cO σ) sz) := by
  refine xOpen (w := (cW ax ar ad cO)) (σ := σ) (cc := cX1_countThatWouldLeave) (maxL := 6) (ret := some .int) (QQ := fun A => va_Qi (fun (r : Int32) (u : St) => r = cCount σ sz9 ∧ u = σ) (xB D (cT cO) (cW ax ar ad cO) A) A) (by decide) rfl (Nat.le_of_ble_eq_true rfl) ?_
  intro p e s m below meth c A hx hb hr hml hown hts hlocks hname hK hE hA hP hD hS ls hl
  have hl : lv_has ls 6 [(0, .ref ax), (1, .int sz9)] := hl
  have hown : s.vm.findClass RX1 = some m.cls := hown
  have hi0 : ∀ w ∈ wsX00, w ∈ wsX1_countThatWouldLeave := (fun _ h => List.mem_cons_of_mem _ (List.mem_append_right _ h))
  have hi1 : ∀ w ∈ wsX10, w ∈ wsX1_countThatWouldLeave := (fun _ h => List.mem_cons_of_mem _ (List.mem_append_left _ (List.mem_append_right _ h)))
  generalize hH : s.heap = H at hP
  have hS : va_S A s.heap H [] := by rw [← hH]; exact va_S.rf
  generalize hlo : ([] : List Loc) = locs at hS
  refine lv_aload_n hx hb dX1_countThatWouldLeave_0 rfl (lv_at hl 0 rfl) ?_
  refine x_calli (va_runV (As := []) (rest := []) ⟨hx, hb, hml, hown, hts⟩ (k_X1_bytesNotOver l D ax ar ad cO H.size σ) (cwV 0 hts gX1_countThatWouldLeave_X1_bytesNotOver rfl rfl rfl (by decide +kernel) ⟨Nat.le_of_ble_eq_true rfl, Nat.le_of_ble_eq_true rfl⟩) (xPreV xE_ok hE hK hA hP hD hS (q0 := 0) (ci := 1) rfl rfl rfl) rfl rfl hl.1 rfl (lv_room (Nat.le_of_ble_eq_true rfl)) dX1_countThatWouldLeave_1 ⟨Nat.le_of_ble_eq_true rfl, Nat.le_of_ble_eq_true rfl⟩) hD hS hA (fun r u H locs hp hP hD hS => ?_)
  obtain ⟨rfl, hu9⟩ := hp
  rw [hu9] at hP hD
  refine lv_istore_n (lv' := [(2, .int (notO σ)), (0, .ref ax), (1, .int sz9)]) hx hb dX1_countThatWouldLeave_4 rfl hl (by decide) rfl (fun ls hl => ?_)
  refine lv_iconst (v := 0) hx hb dX1_countThatWouldLeave_5 (by decide) ?_
  refine lv_istore_n (lv' := [(3, .int 0), (2, .int (notO σ)), (0, .ref ax), (1, .int sz9)]) hx hb dX1_countThatWouldLeave_6 rfl hl (by decide) rfl (fun ls hl => ?_)
  refine lv_aload_n hx hb dX1_countThatWouldLeave_7 rfl (lv_at hl 2 rfl) ?_
  refine x_callq (va_runV (As := []) (rest := []) ⟨hx, hb, hml, hown, hts⟩ (k_X1_firstInOrder l D ax ar ad cO H.size σ) (cwV 0 hts gX1_countThatWouldLeave_X1_firstInOrder rfl rfl rfl (by decide +kernel) ⟨Nat.le_of_ble_eq_true rfl, Nat.le_of_ble_eq_true rfl⟩) (xPreV xE_ok hE hK hA hP hD hS (q0 := 0) (ci := 1) rfl rfl rfl) rfl rfl hl.1 rfl (lv_room (Nat.le_of_ble_eq_true rfl)) dX1_countThatWouldLeave_8 ⟨Nat.le_of_ble_eq_true rfl, Nat.le_of_ble_eq_true rfl⟩) hD hS hA (fun r u H locs hp hP hD hS => ?_)
  obtain ⟨rfl, hu9⟩ := hp
  rw [hu9] at hP hD
  refine x_astoreQ (lv' := [(4, va_rf ((nxt σ none).map ad)), (3, .int 0), (2, .int (notO σ)), (0, .ref ax), (1, .int sz9)]) hx hb dX1_countThatWouldLeave_11 hl (by decide) rfl (fun ls hl => ?_)
  refine lv_iconst (v := 0) hx hb dX1_countThatWouldLeave_13 (by decide) ?_
  refine lv_istore (lv' := [(5, .int 0), (4, va_rf ((nxt σ none).map ad)), (3, .int 0), (2, .int (notO σ)), (0, .ref ax), (1, .int sz9)]) hx hb dX1_countThatWouldLeave_14 hl (by decide) (by cases (nxt σ none) <;> rfl) (fun ls hl => ?_)
  obtain ⟨-, hN1, hN2, hN3⟩ := stopN_spec (wlOk σ sz9) 32 0
  have hN1 : wlE σ sz9 ≤ 32 := by have h := hN1; unfold wlE; omega
  have hN2 : ∀ j, j < wlE σ sz9 → wlOk σ sz9 j = true := fun j h => hN2 j (Nat.zero_le _) h
  have hN3 : wlE σ sz9 = 32 ∨ wlOk σ sz9 (wlE σ sz9) = false := by rw [Nat.zero_add] at hN3; exact hN3
  have loop : ∀ (n j : Nat) (ls : Array Slot) (H : Heap) (locs : List Loc), j ≤ wlE σ sz9 → wlE σ sz9 - j < n → va_P D vwCl (cW ax ar ad cO σ) H → va_D A (cW ax ar ad cO σ) → va_S A s.heap H locs → lv_has ls 6 [(0, .ref ax), (1, .int sz9), (2, .int ((wlI σ j).1)), (3, .int ((wlI σ j).2.1)), (4, va_rf (((wlI σ j).2.2).map ad)), (5, .int (nI j))] → W p l e (headSpec wsX1_countThatWouldLeave ({ frames := 3, cells := 0, slots := 0, locals := 90 } : Room)).room s m [.ref ax, .int sz9].toArray below meth c H locs 0 0 (MQ below (va_Qi (fun (r : Int32) (u : St) => r = cCount σ sz9 ∧ u = σ) (xB D (cT cO) (cW ax ar ad cO) A) A) [.ref ax, .int sz9].toArray s 0 0 A) (F0 m 16 ls []) := by
    intro n
    induction n with
    | zero =>
      intro j ls H locs h1 h2
      exact absurd h2 (by omega)
    | succ n ih =>
      intro j ls H locs hj hn hP hD hS hl
      have hj32 : j ≤ 32 := Nat.le_trans hj hN1
      refine lv_iload hx hb dX1_countThatWouldLeave_16 (lv_at hl 5 rfl) ?_
      refine lv_bipush (v := 32) hx hb dX1_countThatWouldLeave_18 (by decide) ?_
      refine x_icmp_ge (tgt := 72) hx hb dX1_countThatWouldLeave_20 (by decide) (fun c_1 => ?_) (fun c_1 => ?_)
      · have hjN : j = wlE σ sz9 := by
          rcases Nat.lt_or_ge j (wlE σ sz9) with q | q
          · exact absurd ((nI_lt32 hj32).mpr (Nat.lt_of_lt_of_le q hN1)) c_1
          · omega
        refine lv_iload_n hx hb dX1_countThatWouldLeave_72 rfl (lv_at hl 3 rfl) ?_
        exact x_iret hx hb hr hlocks hK (σ) hP hD hS ⟨by rw [cCount, ← hjN], rfl⟩ dX1_countThatWouldLeave_73
      · refine x_aloadQ hx hb dX1_countThatWouldLeave_23 (lv_at hl 4 rfl) ?_
        refine x_ifnullQ (tgt := 72) hx hb dX1_countThatWouldLeave_25 (by decide) (fun c_2 => ?_) (fun k_3 c_2 => ?_)
        · have hjN : j = wlE σ sz9 := by
            rcases Nat.lt_or_ge j (wlE σ sz9) with q | q
            · have h9 := hN2 j q
              rw [wlOk, c_2] at h9
              simp at h9
            · omega
          refine lv_iload_n hx hb dX1_countThatWouldLeave_72 rfl (lv_at hl 3 rfl) ?_
          exact x_iret hx hb hr hlocks hK (σ) hP hD hS ⟨by rw [cCount, ← hjN], rfl⟩ dX1_countThatWouldLeave_73
        · have hk_3 : k_3 < 32 := wlI_lt c_2
          refine lv_iload_n hx hb dX1_countThatWouldLeave_28 rfl (lv_at hl 2 rfl) ?_
          refine lv_aload_n hx hb dX1_countThatWouldLeave_29 rfl (lv_at hl 0 rfl) ?_
          refine c_get hx hb hts hi1 hown hK hP 3 (by decide) (List.mem_of_getElem? (i := 1) rfl) (v := .int (gI σ 3)) rfl dX1_countThatWouldLeave_30 (fun _ h => h) ?_
          refine lv_iload_n hx hb dX1_countThatWouldLeave_33 rfl (lv_at hl 1 rfl) ?_
          refine lv_isub hx hb dX1_countThatWouldLeave_34 ?_
          refine x_icmp_le (tgt := 72) hx hb dX1_countThatWouldLeave_35 (by decide) (fun c_4 => ?_) (fun c_4 => ?_)
          · have hjN : j = wlE σ sz9 := by
              rcases Nat.lt_or_ge j (wlE σ sz9) with q | q
              · have h9 := hN2 j q
                rw [wlOk, c_2] at h9
                simp [c_4] at h9
              · omega
            refine lv_iload_n hx hb dX1_countThatWouldLeave_72 rfl (lv_at hl 3 rfl) ?_
            exact x_iret hx hb hr hlocks hK (σ) hP hD hS ⟨by rw [cCount, ← hjN], rfl⟩ dX1_countThatWouldLeave_73
          · refine lv_aload_n hx hb dX1_countThatWouldLeave_38 rfl (lv_at hl 0 rfl) ?_
            refine x_aloadQ hx hb dX1_countThatWouldLeave_39 (lv_at hl 4 rfl) ?_
            refine W.eq (g2 := F0 m 41 ls [.ref (ad k_3), .ref ax]) (by rw [c_2]; rfl) ?_
            refine x_calli (va_runV (As := [.ref (ad k_3)]) (rest := []) ⟨hx, hb, hml, hown, hts⟩ (k_X1_hasEnded l D ax ar ad cO H.size σ hk_3) (cwV 1 hts gX1_countThatWouldLeave_X1_hasEnded rfl rfl rfl (by decide +kernel) ⟨Nat.le_of_ble_eq_true rfl, Nat.le_of_ble_eq_true rfl⟩) (xPreV xE_ok hE hK hA hP hD hS (q0 := 0) (ci := 1) rfl rfl rfl) rfl rfl hl.1 rfl (lv_room (Nat.le_of_ble_eq_true rfl)) dX1_countThatWouldLeave_41 ⟨Nat.le_of_ble_eq_true rfl, Nat.le_of_ble_eq_true rfl⟩) hD hS hA (fun r u H locs hp hP hD hS => ?_)
            obtain ⟨rfl, hu9⟩ := hp
            rw [hu9] at hP hD
            refine x_ifne (tgt := 58) hx hb dX1_countThatWouldLeave_44 (by decide) (fun c_5 => ?_) (fun c_5 => ?_)
            · refine lv_aload_n hx hb dX1_countThatWouldLeave_58 rfl (lv_at hl 0 rfl) ?_
              refine x_aloadQ hx hb dX1_countThatWouldLeave_59 (lv_at hl 4 rfl) ?_
              refine W.eq (g2 := F0 m 61 ls [.ref (ad k_3), .ref ax]) (by rw [c_2]; rfl) ?_
              refine x_callq (va_runV (As := [.ref (ad k_3)]) (rest := []) ⟨hx, hb, hml, hown, hts⟩ (k_X1_nextInOrder l D ax ar ad cO H.size σ (some k_3) (fun _ h => by cases h; exact hk_3)) (cwV 1 hts gX1_countThatWouldLeave_X1_nextInOrder rfl rfl rfl (by decide +kernel) ⟨Nat.le_of_ble_eq_true rfl, Nat.le_of_ble_eq_true rfl⟩) (xPreV xE_ok hE hK hA hP hD hS (q0 := 0) (ci := 1) rfl rfl rfl) rfl rfl hl.1 rfl (lv_room (Nat.le_of_ble_eq_true rfl)) dX1_countThatWouldLeave_61 ⟨Nat.le_of_ble_eq_true rfl, Nat.le_of_ble_eq_true rfl⟩) hD hS hA (fun r u H locs hp hP hD hS => ?_)
              obtain ⟨rfl, hu9⟩ := hp
              rw [hu9] at hP hD
              refine x_astoreQ (lv' := [(4, va_rf ((nxt σ (some k_3)).map ad)), (0, .ref ax), (1, .int sz9), (2, .int ((wlI σ j).1)), (3, .int ((wlI σ j).2.1)), (5, .int (nI j))]) hx hb dX1_countThatWouldLeave_64 hl (by decide) rfl (fun ls hl => ?_)
              refine lv_iinc (v := (nI j) + 1) (lv' := [(5, .int ((nI j) + 1)), (4, va_rf ((nxt σ (some k_3)).map ad)), (0, .ref ax), (1, .int sz9), (2, .int ((wlI σ j).1)), (3, .int ((wlI σ j).2.1))]) hx hb dX1_countThatWouldLeave_66 hl (k := 5) rfl rfl (by decide) (by cases (nxt σ (some k_3)) <;> rfl) (fun ls hl => ?_)
              refine lv_goto (tgt := 16) hx hb dX1_countThatWouldLeave_69 (by decide) ?_
              have hlt : j < wlE σ sz9 := by
                rcases Nat.lt_or_ge j (wlE σ sz9) with q | q
                · exact q
                · have hjN : j = wlE σ sz9 := by omega
                  rcases hN3 with h9 | h9
                  · exact absurd ((nI_lt32 hj32).mp c_1) (by omega)
                  · rw [← hjN, wlOk, c_2] at h9
                    simp [c_4] at h9
              have e9 : wlI σ (j + 1) = ((wlI σ j).1, (wlI σ j).2.1, nxt σ (some k_3)) := by
                rw [wlI_s, c_2]
                simp [c_5]
              exact ih (j + 1) ls H locs hlt (by omega) hP hD hS (by rw [nI_succ, e9]; exact lv_sub hl [2, 3, 4, 5, 1, 0] rfl)
            · refine lv_iload_n hx hb dX1_countThatWouldLeave_47 rfl (lv_at hl 2 rfl) ?_
              refine x_aloadQ hx hb dX1_countThatWouldLeave_48 (lv_at hl 4 rfl) ?_
              refine W.eq (g2 := F0 m 50 ls [.ref (ad k_3), .int ((wlI σ j).1)]) (by rw [c_2]; rfl) ?_
              refine s_get hx hb hts hi0 hown hK hE hP hk_3 3 (by decide) rfl (v := .int (gS σ 3 k_3)) rfl dX1_countThatWouldLeave_50 (fun _ h => h) ?_
              refine lv_isub hx hb dX1_countThatWouldLeave_53 ?_
              refine lv_istore_n (lv' := [(2, .int (((wlI σ j).1) - (gS σ 3 k_3))), (0, .ref ax), (1, .int sz9), (3, .int ((wlI σ j).2.1)), (4, va_rf (((wlI σ j).2.2).map ad)), (5, .int (nI j))]) hx hb dX1_countThatWouldLeave_54 rfl hl (by decide) rfl (fun ls hl => ?_)
              refine lv_iinc (v := ((wlI σ j).2.1) + 1) (lv' := [(3, .int (((wlI σ j).2.1) + 1)), (2, .int (((wlI σ j).1) - (gS σ 3 k_3))), (0, .ref ax), (1, .int sz9), (4, va_rf (((wlI σ j).2.2).map ad)), (5, .int (nI j))]) hx hb dX1_countThatWouldLeave_55 hl (k := 3) rfl rfl (by decide) rfl (fun ls hl => ?_)
              refine lv_aload_n hx hb dX1_countThatWouldLeave_58 rfl (lv_at hl 2 rfl) ?_
              refine x_aloadQ hx hb dX1_countThatWouldLeave_59 (lv_at hl 4 rfl) ?_
              refine W.eq (g2 := F0 m 61 ls [.ref (ad k_3), .ref ax]) (by rw [c_2]; rfl) ?_
              refine x_callq (va_runV (As := [.ref (ad k_3)]) (rest := []) ⟨hx, hb, hml, hown, hts⟩ (k_X1_nextInOrder l D ax ar ad cO H.size σ (some k_3) (fun _ h => by cases h; exact hk_3)) (cwV 1 hts gX1_countThatWouldLeave_X1_nextInOrder rfl rfl rfl (by decide +kernel) ⟨Nat.le_of_ble_eq_true rfl, Nat.le_of_ble_eq_true rfl⟩) (xPreV xE_ok hE hK hA hP hD hS (q0 := 0) (ci := 1) rfl rfl rfl) rfl rfl hl.1 rfl (lv_room (Nat.le_of_ble_eq_true rfl)) dX1_countThatWouldLeave_61 ⟨Nat.le_of_ble_eq_true rfl, Nat.le_of_ble_eq_true rfl⟩) hD hS hA (fun r u H locs hp hP hD hS => ?_)
              obtain ⟨rfl, hu9⟩ := hp
              rw [hu9] at hP hD
              refine x_astoreQ (lv' := [(4, va_rf ((nxt σ (some k_3)).map ad)), (3, .int (((wlI σ j).2.1) + 1)), (2, .int (((wlI σ j).1) - (gS σ 3 k_3))), (0, .ref ax), (1, .int sz9), (5, .int (nI j))]) hx hb dX1_countThatWouldLeave_64 hl (by decide) rfl (fun ls hl => ?_)
              refine lv_iinc (v := (nI j) + 1) (lv' := [(5, .int ((nI j) + 1)), (4, va_rf ((nxt σ (some k_3)).map ad)), (3, .int (((wlI σ j).2.1) + 1)), (2, .int (((wlI σ j).1) - (gS σ 3 k_3))), (0, .ref ax), (1, .int sz9)]) hx hb dX1_countThatWouldLeave_66 hl (k := 5) rfl rfl (by decide) (by cases (nxt σ (some k_3)) <;> rfl) (fun ls hl => ?_)
              refine lv_goto (tgt := 16) hx hb dX1_countThatWouldLeave_69 (by decide) ?_
              have hlt : j < wlE σ sz9 := by
                rcases Nat.lt_or_ge j (wlE σ sz9) with q | q
                · exact q
                · have hjN : j = wlE σ sz9 := by omega
                  rcases hN3 with h9 | h9
                  · exact absurd ((nI_lt32 hj32).mp c_1) (by omega)
                  · rw [← hjN, wlOk, c_2] at h9
                    simp [c_4] at h9
              have e9 : wlI σ (j + 1) = (((wlI σ j).1) - (gS σ 3 k_3), ((wlI σ j).2.1) + 1, nxt σ (some k_3)) := by
                rw [wlI_s, c_2]
                simp [c_5]
              exact ih (j + 1) ls H locs hlt (by omega) hP hD hS (by rw [nI_succ, e9]; exact lv_sub hl [4, 5, 3, 2, 1, 0] rfl)
  exact loop (wlE σ sz9 + 1) 0 _ _ _ (Nat.zero_le _) (by omega) hP hD hS (lv_sub hl [4, 5, 3, 2, 1, 0] rfl)
set_option maxHeartbeats 4000000 in
set_option maxRecDepth 100000 in
theorem k_X1_makeRoom (l : Launch) (D : va_G) (ax ar : Nat) (ad : Nat → Nat) (cO : ClassId) (sz : Nat) (σ : St) (sz9 : Int32) : Met l yX1_makeRoom wsX1_makeRoom ({ frames := 4, cells := 0, slots := 0, locals := 120 } : Room) (va_Pc [.ref ax, .int sz9] (xPre D (cT cO) xE (cW ax ar ad cO) σ sz)) (va_Qi (fun (r : Int32) (u : St) => r = bI (cRoom σ sz9).1 ∧ u = (cRoom σ sz9).2) (xB D (cT cO) (cW ax ar ad cO) (va_A (cW ax ar ad cO σ) sz)) (va_A (cW ax ar ad cO σ) sz)) 0 0 (va_A (cW ax ar ad cO σ) sz) := by
  refine xOpen (w := (cW ax ar ad cO)) (σ := σ) (cc := cX1_makeRoom) (maxL := 2) (ret := some .boolean) (QQ := fun A => va_Qi (fun (r : Int32) (u : St) => r = bI (cRoom σ sz9).1 ∧ u = (cRoom σ sz9).2) (xB D (cT cO) (cW ax ar ad cO) A) A) (by decide) rfl (Nat.le_of_ble_eq_true rfl) ?_
  intro p e s m below meth c A hx hb hr hml hown hts hlocks hname hK hE hA hP hD hS ls hl
  have hl : lv_has ls 2 [(0, .ref ax), (1, .int sz9)] := hl
  have hown : s.vm.findClass RX1 = some m.cls := hown
  have hi0 : ∀ w ∈ wsX00, w ∈ wsX1_makeRoom := (fun _ h => List.mem_cons_of_mem _ (List.mem_append_right _ h))
  have hi1 : ∀ w ∈ wsX10, w ∈ wsX1_makeRoom := (fun _ h => List.mem_cons_of_mem _ (List.mem_append_left _ (List.mem_append_right _ h)))
  generalize hH : s.heap = H at hP
  have hS : va_S A s.heap H [] := by rw [← hH]; exact va_S.rf
  generalize hlo : ([] : List Loc) = locs at hS
  refine lv_aload_n hx hb dX1_makeRoom_0 rfl (lv_at hl 0 rfl) ?_
  refine lv_iload_n hx hb dX1_makeRoom_1 rfl (lv_at hl 1 rfl) ?_
  refine x_calli (va_runV (As := [.int sz9]) (rest := []) ⟨hx, hb, hml, hown, hts⟩ (k_X1_hasRoom l D ax ar ad cO H.size σ sz9) (cwV 1 hts gX1_makeRoom_X1_hasRoom rfl rfl rfl (by decide +kernel) ⟨Nat.le_of_ble_eq_true rfl, Nat.le_of_ble_eq_true rfl⟩) (xPreV xE_ok hE hK hA hP hD hS (q0 := 0) (ci := 1) rfl rfl rfl) rfl rfl hl.1 rfl (lv_room (Nat.le_of_ble_eq_true rfl)) dX1_makeRoom_2 ⟨Nat.le_of_ble_eq_true rfl, Nat.le_of_ble_eq_true rfl⟩) hD hS hA (fun r u H locs hp hP hD hS => ?_)
  obtain ⟨rfl, hu9⟩ := hp
  rw [hu9] at hP hD
  refine x_ifeq (tgt := 10) hx hb dX1_makeRoom_5 (by decide) (fun c_1 => ?_) (fun c_1 => ?_)
  · refine lv_aload_n hx hb dX1_makeRoom_10 rfl (lv_at hl 0 rfl) ?_
    refine x_calli (va_runV (As := []) (rest := []) ⟨hx, hb, hml, hown, hts⟩ (k_X1_removeAllOver l D ax ar ad cO H.size σ) (cwV 0 hts gX1_makeRoom_X1_removeAllOver rfl rfl rfl (by decide +kernel) ⟨Nat.le_of_ble_eq_true rfl, Nat.le_of_ble_eq_true rfl⟩) (xPreV xE_ok hE hK hA hP hD hS (q0 := 0) (ci := 1) rfl rfl rfl) rfl rfl hl.1 rfl (lv_room (Nat.le_of_ble_eq_true rfl)) dX1_makeRoom_11 ⟨Nat.le_of_ble_eq_true rfl, Nat.le_of_ble_eq_true rfl⟩) hD hS hA (fun r u H locs hp hP hD hS => ?_)
    obtain ⟨rfl, hu9⟩ := hp
    rw [hu9] at hP hD
    refine lv_pop hx hb dX1_makeRoom_14 rfl ?_
    refine lv_iload_n hx hb dX1_makeRoom_15 rfl (lv_at hl 1 rfl) ?_
    refine lv_aload_n hx hb dX1_makeRoom_16 rfl (lv_at hl 0 rfl) ?_
    refine c_get hx hb hts hi1 hown hK hP 3 (by decide) (List.mem_of_getElem? (i := 1) rfl) (v := .int (gI (rmO σ) 3)) rfl dX1_makeRoom_17 (fun _ h => h) ?_
    refine lv_aload_n hx hb dX1_makeRoom_20 rfl (lv_at hl 0 rfl) ?_
    refine x_calli (va_runV (As := []) (rest := [.int (gI (rmO σ) 3), .int sz9]) ⟨hx, hb, hml, hown, hts⟩ (k_X1_bytesThatCannotLeave l D ax ar ad cO H.size (rmO σ)) (cwV 0 hts gX1_makeRoom_X1_bytesThatCannotLeave rfl rfl rfl (by decide +kernel) ⟨Nat.le_of_ble_eq_true rfl, Nat.le_of_ble_eq_true rfl⟩) (xPreV xE_ok hE hK hA hP hD hS (q0 := 0) (ci := 1) rfl rfl rfl) rfl rfl hl.1 rfl (lv_room (Nat.le_of_ble_eq_true rfl)) dX1_makeRoom_21 ⟨Nat.le_of_ble_eq_true rfl, Nat.le_of_ble_eq_true rfl⟩) hD hS hA (fun r u H locs hp hP hD hS => ?_)
    obtain ⟨rfl, hu9⟩ := hp
    rw [hu9] at hP hD
    refine lv_isub hx hb dX1_makeRoom_24 ?_
    refine x_icmp_le (tgt := 30) hx hb dX1_makeRoom_25 (by decide) (fun c_2 => ?_) (fun c_2 => ?_)
    · refine lv_aload_n hx hb dX1_makeRoom_30 rfl (lv_at hl 0 rfl) ?_
      refine lv_aload_n hx hb dX1_makeRoom_31 rfl (lv_at hl 0 rfl) ?_
      refine c_get hx hb hts hi1 hown hK hP 3 (by decide) (List.mem_of_getElem? (i := 1) rfl) (v := .int (gI (rmO σ) 3)) rfl dX1_makeRoom_32 (fun _ h => h) ?_
      refine lv_iload_n hx hb dX1_makeRoom_35 rfl (lv_at hl 1 rfl) ?_
      refine lv_isub hx hb dX1_makeRoom_36 ?_
      refine x_calli (va_runV (As := [.int ((gI (rmO σ) 3) - sz9)]) (rest := []) ⟨hx, hb, hml, hown, hts⟩ (k_X1_leaveDownTo l D ax ar ad cO H.size (rmO σ) ((gI (rmO σ) 3) - sz9)) (cwV 1 hts gX1_makeRoom_X1_leaveDownTo rfl rfl rfl (by decide +kernel) ⟨Nat.le_of_ble_eq_true rfl, Nat.le_of_ble_eq_true rfl⟩) (xPreV xE_ok hE hK hA hP hD hS (q0 := 0) (ci := 1) rfl rfl rfl) rfl rfl hl.1 rfl (lv_room (Nat.le_of_ble_eq_true rfl)) dX1_makeRoom_37 ⟨Nat.le_of_ble_eq_true rfl, Nat.le_of_ble_eq_true rfl⟩) hD hS hA (fun r u H locs hp hP hD hS => ?_)
      obtain ⟨rfl, hu9⟩ := hp
      rw [hu9] at hP hD
      refine lv_pop hx hb dX1_makeRoom_40 rfl ?_
      refine lv_iconst (v := 1) hx hb dX1_makeRoom_41 (by decide) ?_
      exact x_zret (b := true) hx hb hr hlocks hK (lvD ((gI (rmO σ) 3) - sz9) (rmO σ)) hP hD hS ⟨by simp [cRoom, c_1, c_2], by simp [cRoom, c_1, c_2]⟩ dX1_makeRoom_42
    · refine lv_iconst (v := 0) hx hb dX1_makeRoom_28 (by decide) ?_
      exact x_zret (b := false) hx hb hr hlocks hK (rmO σ) hP hD hS ⟨by simp [cRoom, c_1, c_2], by simp [cRoom, c_1, c_2]⟩ dX1_makeRoom_29
  · refine lv_iconst (v := 1) hx hb dX1_makeRoom_8 (by decide) ?_
    exact x_zret (b := true) hx hb hr hlocks hK (σ) hP hD hS ⟨by simp [cRoom, c_1], by simp [cRoom, c_1]⟩ dX1_makeRoom_9
set_option maxHeartbeats 4000000 in
set_option maxRecDepth 100000 in
theorem k_X1_letInIfPossible (l : Launch) (D : va_G) (ax ar : Nat) (ad : Nat → Nat) (cO : ClassId) (sz : Nat) (σ : St) {k : Nat} (sz9 pr lf : Int32) (hk : k < 32) : Met l yX1_letInIfPossible wsX1_letInIfPossible ({ frames := 5, cells := 0, slots := 0, locals := 150 } : Room) (va_Pc [.ref ax, .ref (ad k), .int sz9, .int pr, .int lf] (xPre D (cT cO) xE (cW ax ar ad cO) σ sz)) (va_Qi (fun (r : Int32) (u : St) => r = bI (cLetIn σ k sz9 pr lf).1 ∧ u = (cLetIn σ k sz9 pr lf).2) (xB D (cT cO) (cW ax ar ad cO) (va_A (cW ax ar ad cO σ) sz)) (va_A (cW ax ar ad cO σ) sz)) 0 0 (va_A (cW ax ar ad cO σ) sz) := by
  refine xOpen (w := (cW ax ar ad cO)) (σ := σ) (cc := cX1_letInIfPossible) (maxL := 6) (ret := some .boolean) (QQ := fun A => va_Qi (fun (r : Int32) (u : St) => r = bI (cLetIn σ k sz9 pr lf).1 ∧ u = (cLetIn σ k sz9 pr lf).2) (xB D (cT cO) (cW ax ar ad cO) A) A) (by decide) rfl (Nat.le_of_ble_eq_true rfl) ?_
  intro p e s m below meth c A hx hb hr hml hown hts hlocks hname hK hE hA hP hD hS ls hl
  have hl : lv_has ls 6 [(0, .ref ax), (1, .ref (ad k)), (2, .int sz9), (3, .int pr), (4, .int lf)] := hl
  have hown : s.vm.findClass RX1 = some m.cls := hown
  have hi0 : ∀ w ∈ wsX00, w ∈ wsX1_letInIfPossible := (fun _ h => List.mem_cons_of_mem _ (List.mem_append_right _ h))
  have hi1 : ∀ w ∈ wsX10, w ∈ wsX1_letInIfPossible := (fun _ h => List.mem_cons_of_mem _ (List.mem_append_left _ (List.mem_append_right _ h)))
  generalize hH : s.heap = H at hP
  have hS : va_S A s.heap H [] := by rw [← hH]; exact va_S.rf
  generalize hlo : ([] : List Loc) = locs at hS
  refine lv_aload_n hx hb dX1_letInIfPossible_0 rfl (lv_at hl 0 rfl) ?_
  refine lv_aload_n hx hb dX1_letInIfPossible_1 rfl (lv_at hl 1 rfl) ?_
  refine x_calli (va_runV (As := [.ref (ad k)]) (rest := []) ⟨hx, hb, hml, hown, hts⟩ (k_X1_wasMissedLately l D ax ar ad cO H.size σ hk) (cwV 1 hts gX1_letInIfPossible_X1_wasMissedLately rfl rfl rfl (by decide +kernel) ⟨Nat.le_of_ble_eq_true rfl, Nat.le_of_ble_eq_true rfl⟩) (xPreV xE_ok hE hK hA hP hD hS (q0 := 0) (ci := 1) rfl rfl rfl) rfl rfl hl.1 rfl (lv_room (Nat.le_of_ble_eq_true rfl)) dX1_letInIfPossible_2 ⟨Nat.le_of_ble_eq_true rfl, Nat.le_of_ble_eq_true rfl⟩) hD hS hA (fun r u H locs hp hP hD hS => ?_)
  obtain ⟨rfl, hu9⟩ := hp
  rw [hu9] at hP hD
  refine lv_istore (lv' := [(5, .int (bI (cLate σ k))), (0, .ref ax), (1, .ref (ad k)), (2, .int sz9), (3, .int pr), (4, .int lf)]) hx hb dX1_letInIfPossible_5 hl (by decide) rfl (fun ls hl => ?_)
  refine lv_aload_n hx hb dX1_letInIfPossible_7 rfl (lv_at hl 2 rfl) ?_
  refine lv_aload_n hx hb dX1_letInIfPossible_8 rfl (lv_at hl 1 rfl) ?_
  refine c_get hx hb hts hi1 hown hK hP 1 (by decide) (List.mem_of_getElem? (i := 1) rfl) (v := .int (gI σ 1)) rfl dX1_letInIfPossible_9 (fun _ h => h) ?_
  refine s_put hx hb hts hi0 hown hK hE hP hD hS hk 8 (by decide) rfl (v := .int (gI σ 1)) (ty := .int) (uS σ 8 k (gI σ 1)) ((sF_self σ k).2.2.2.1 _) (fun i9 hi9 => (sF_other σ hi9).2.2.2.1 _) (cF_uS _ _ _ _ _) rfl (by decide +kernel) rfl rfl dX1_letInIfPossible_12 (fun _ h => h) (fun H locs hP hD hS => ?_)
  refine lv_aload_n hx hb dX1_letInIfPossible_15 rfl (lv_at hl 1 rfl) ?_
  refine lv_aload_n hx hb dX1_letInIfPossible_16 rfl (lv_at hl 2 rfl) ?_
  refine x_callv (va_runV (As := [.ref (ad k)]) (rest := []) ⟨hx, hb, hml, hown, hts⟩ (k_X1_removeOwn l D ax ar ad cO H.size (uS σ 8 k (gI σ 1)) hk) (cwV 1 hts gX1_letInIfPossible_X1_removeOwn rfl rfl rfl (by decide +kernel) ⟨Nat.le_of_ble_eq_true rfl, Nat.le_of_ble_eq_true rfl⟩) (xPreV xE_ok hE hK hA hP hD hS (q0 := 0) (ci := 1) rfl rfl rfl) rfl rfl hl.1 rfl (lv_room (Nat.le_of_ble_eq_true rfl)) dX1_letInIfPossible_17 ⟨Nat.le_of_ble_eq_true rfl, Nat.le_of_ble_eq_true rfl⟩) hD hS hA (fun u H locs hp hP hD hS => ?_)
  rw [hp] at hP hD
  refine lv_iload_n hx hb dX1_letInIfPossible_20 rfl (lv_at hl 3 rfl) ?_
  refine lv_aload_n hx hb dX1_letInIfPossible_21 rfl (lv_at hl 1 rfl) ?_
  refine c_get hx hb hts hi1 hown hK hP 3 (by decide) (List.mem_of_getElem? (i := 2) rfl) (v := .int (gI (cRmOwn (uS σ 8 k (gI σ 1)) k) 3)) rfl dX1_letInIfPossible_22 (fun _ h => h) ?_
  refine lv_icmp_gt (tgt := 49) hx hb dX1_letInIfPossible_25 (by decide) (fun c_1 => ?_) (fun c_1 => ?_)
  · refine lv_iconst (v := 0) hx hb dX1_letInIfPossible_49 (by decide) ?_
    exact x_zret (b := false) hx hb hr hlocks hK (cRmOwn (uS σ 8 k (gI σ 1)) k) hP hD hS ⟨by simp [cLetIn, c_1], by simp [cLetIn, c_1]⟩ dX1_letInIfPossible_50
  · refine lv_iload_n hx hb dX1_letInIfPossible_28 rfl (lv_at hl 3 rfl) ?_
    refine lv_aload_n hx hb dX1_letInIfPossible_29 rfl (lv_at hl 1 rfl) ?_
    refine c_get hx hb hts hi1 hown hK hP 4 (by decide) (List.mem_of_getElem? (i := 3) rfl) (v := .int (gI (cRmOwn (uS σ 8 k (gI σ 1)) k) 4)) rfl dX1_letInIfPossible_30 (fun _ h => h) ?_
    refine x_icmp_le (tgt := 41) hx hb dX1_letInIfPossible_33 (by decide) (fun c_2 => ?_) (fun c_2 => ?_)
    · refine lv_aload_n hx hb dX1_letInIfPossible_41 rfl (lv_at hl 1 rfl) ?_
      refine lv_iload_n hx hb dX1_letInIfPossible_42 rfl (lv_at hl 3 rfl) ?_
      refine x_calli (va_runV (As := [.int sz9]) (rest := []) ⟨hx, hb, hml, hown, hts⟩ (k_X1_makeRoom l D ax ar ad cO H.size (cRmOwn (uS σ 8 k (gI σ 1)) k) sz9) (cwV 1 hts gX1_letInIfPossible_X1_makeRoom rfl rfl rfl (by decide +kernel) ⟨Nat.le_of_ble_eq_true rfl, Nat.le_of_ble_eq_true rfl⟩) (xPreV xE_ok hE hK hA hP hD hS (q0 := 0) (ci := 1) rfl rfl rfl) rfl rfl hl.1 rfl (lv_room (Nat.le_of_ble_eq_true rfl)) dX1_letInIfPossible_43 ⟨Nat.le_of_ble_eq_true rfl, Nat.le_of_ble_eq_true rfl⟩) hD hS hA (fun r u H locs hp hP hD hS => ?_)
      obtain ⟨rfl, hu9⟩ := hp
      rw [hu9] at hP hD
      refine x_ifne (tgt := 51) hx hb dX1_letInIfPossible_46 (by decide) (fun c_3 => ?_) (fun c_3 => ?_)
      · refine lv_aload_n hx hb dX1_letInIfPossible_51 rfl (lv_at hl 1 rfl) ?_
        refine lv_aload_n hx hb dX1_letInIfPossible_52 rfl (lv_at hl 2 rfl) ?_
        refine lv_iload_n hx hb dX1_letInIfPossible_53 rfl (lv_at hl 3 rfl) ?_
        refine lv_iload_n hx hb dX1_letInIfPossible_54 rfl (lv_at hl 4 rfl) ?_
        refine lv_iload hx hb dX1_letInIfPossible_55 (lv_at hl 5 rfl) ?_
        refine x_callv (va_runV (As := [.ref (ad k), .int sz9, .int pr, .int lf]) (rest := []) ⟨hx, hb, hml, hown, hts⟩ (k_X1_fill l D ax ar ad cO H.size ((cRoom (cRmOwn (uS σ 8 k (gI σ 1)) k) sz9).2) sz9 pr lf hk) (cwV 4 hts gX1_letInIfPossible_X1_fill rfl rfl rfl (by decide +kernel) ⟨Nat.le_of_ble_eq_true rfl, Nat.le_of_ble_eq_true rfl⟩) (xPreV xE_ok hE hK hA hP hD hS (q0 := 0) (ci := 1) rfl rfl rfl) rfl rfl hl.1 rfl (lv_room (Nat.le_of_ble_eq_true rfl)) dX1_letInIfPossible_57 ⟨Nat.le_of_ble_eq_true rfl, Nat.le_of_ble_eq_true rfl⟩) hD hS hA (fun u H locs hp hP hD hS => ?_)
        rw [hp] at hP hD
        refine lv_iconst (v := 1) hx hb dX1_letInIfPossible_60 (by decide) ?_
        exact x_zret (b := true) hx hb hr hlocks hK (cFill ((cRoom (cRmOwn (uS σ 8 k (gI σ 1)) k) sz9).2) k sz9 pr lf) hP hD hS ⟨by simp [cLetIn, c_1, c_2, c_3], by simp [cLetIn, c_1, c_2, c_3]⟩ dX1_letInIfPossible_61
      · refine lv_iconst (v := 0) hx hb dX1_letInIfPossible_49 (by decide) ?_
        exact x_zret (b := false) hx hb hr hlocks hK ((cRoom (cRmOwn (uS σ 8 k (gI σ 1)) k) sz9).2) hP hD hS ⟨by simp [cLetIn, c_1, c_2, c_3], by simp [cLetIn, c_1, c_2, c_3]⟩ dX1_letInIfPossible_50
    · refine lv_iload hx hb dX1_letInIfPossible_36 (lv_at hl 0 rfl) ?_
      refine x_ifeq (tgt := 49) hx hb dX1_letInIfPossible_38 (by decide) (fun c_4 => ?_) (fun c_4 => ?_)
      · refine lv_iconst (v := 0) hx hb dX1_letInIfPossible_49 (by decide) ?_
        exact x_zret (b := false) hx hb hr hlocks hK (cRmOwn (uS σ 8 k (gI σ 1)) k) hP hD hS ⟨by simp [cLetIn, c_1, c_2, c_4], by simp [cLetIn, c_1, c_2, c_4]⟩ dX1_letInIfPossible_50
      · refine lv_aload_n hx hb dX1_letInIfPossible_41 rfl (lv_at hl 1 rfl) ?_
        refine lv_iload_n hx hb dX1_letInIfPossible_42 rfl (lv_at hl 3 rfl) ?_
        refine x_calli (va_runV (As := [.int sz9]) (rest := []) ⟨hx, hb, hml, hown, hts⟩ (k_X1_makeRoom l D ax ar ad cO H.size (cRmOwn (uS σ 8 k (gI σ 1)) k) sz9) (cwV 1 hts gX1_letInIfPossible_X1_makeRoom rfl rfl rfl (by decide +kernel) ⟨Nat.le_of_ble_eq_true rfl, Nat.le_of_ble_eq_true rfl⟩) (xPreV xE_ok hE hK hA hP hD hS (q0 := 0) (ci := 1) rfl rfl rfl) rfl rfl hl.1 rfl (lv_room (Nat.le_of_ble_eq_true rfl)) dX1_letInIfPossible_43 ⟨Nat.le_of_ble_eq_true rfl, Nat.le_of_ble_eq_true rfl⟩) hD hS hA (fun r u H locs hp hP hD hS => ?_)
        obtain ⟨rfl, hu9⟩ := hp
        rw [hu9] at hP hD
        refine x_ifne (tgt := 51) hx hb dX1_letInIfPossible_46 (by decide) (fun c_5 => ?_) (fun c_5 => ?_)
        · refine lv_aload_n hx hb dX1_letInIfPossible_51 rfl (lv_at hl 1 rfl) ?_
          refine lv_aload_n hx hb dX1_letInIfPossible_52 rfl (lv_at hl 2 rfl) ?_
          refine lv_iload_n hx hb dX1_letInIfPossible_53 rfl (lv_at hl 3 rfl) ?_
          refine lv_iload_n hx hb dX1_letInIfPossible_54 rfl (lv_at hl 4 rfl) ?_
          refine lv_iload hx hb dX1_letInIfPossible_55 (lv_at hl 5 rfl) ?_
          refine x_callv (va_runV (As := [.ref (ad k), .int sz9, .int pr, .int lf]) (rest := []) ⟨hx, hb, hml, hown, hts⟩ (k_X1_fill l D ax ar ad cO H.size ((cRoom (cRmOwn (uS σ 8 k (gI σ 1)) k) sz9).2) sz9 pr lf hk) (cwV 4 hts gX1_letInIfPossible_X1_fill rfl rfl rfl (by decide +kernel) ⟨Nat.le_of_ble_eq_true rfl, Nat.le_of_ble_eq_true rfl⟩) (xPreV xE_ok hE hK hA hP hD hS (q0 := 0) (ci := 1) rfl rfl rfl) rfl rfl hl.1 rfl (lv_room (Nat.le_of_ble_eq_true rfl)) dX1_letInIfPossible_57 ⟨Nat.le_of_ble_eq_true rfl, Nat.le_of_ble_eq_true rfl⟩) hD hS hA (fun u H locs hp hP hD hS => ?_)
          rw [hp] at hP hD
          refine lv_iconst (v := 1) hx hb dX1_letInIfPossible_60 (by decide) ?_
          exact x_zret (b := true) hx hb hr hlocks hK (cFill ((cRoom (cRmOwn (uS σ 8 k (gI σ 1)) k) sz9).2) k sz9 pr lf) hP hD hS ⟨by simp [cLetIn, c_1, c_2, c_4, c_5], by simp [cLetIn, c_1, c_2, c_4, c_5]⟩ dX1_letInIfPossible_61
        · refine lv_iconst (v := 0) hx hb dX1_letInIfPossible_49 (by decide) ?_
          exact x_zret (b := false) hx hb hr hlocks hK ((cRoom (cRmOwn (uS σ 8 k (gI σ 1)) k) sz9).2) hP hD hS ⟨by simp [cLetIn, c_1, c_2, c_4, c_5], by simp [cLetIn, c_1, c_2, c_4, c_5]⟩ dX1_letInIfPossible_50
