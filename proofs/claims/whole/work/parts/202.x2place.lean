set_option maxHeartbeats 4000000 in
set_option maxRecDepth 100000 in
theorem k_X2_place (l : Launch) (D : va_G) (bx : Nat) (ba : Nat → Nat) (cI cJ cZ : ClassId) (sz : Nat) (σ : St) {k : Nat} (hk : k < 32) : Met l yX2_place wsX2_place ({ frames := 1, cells := 0, slots := 0, locals := 40 } : Room) (va_Pc [.ref bx, .int (nI k)] (xPre D (mT cI cJ cZ) mE (mW bx ba cI cJ cZ) σ sz)) (va_Qi (fun (r : Int32) (u : St) => r = mPlace σ k ∧ u = σ) (xB D (mT cI cJ cZ) (mW bx ba cI cJ cZ) (va_A (mW bx ba cI cJ cZ σ) sz)) (va_A (mW bx ba cI cJ cZ σ) sz)) 0 0 (va_A (mW bx ba cI cJ cZ σ) sz) := by
  refine xOpen (w := (mW bx ba cI cJ cZ)) (σ := σ) (cc := cX2_place) (maxL := 4) (ret := some .int) (QQ := fun A => va_Qi (fun (r : Int32) (u : St) => r = mPlace σ k ∧ u = σ) (xB D (mT cI cJ cZ) (mW bx ba cI cJ cZ) A) A) (by decide) rfl (Nat.le_of_ble_eq_true rfl) ?_
  intro p e s m below meth c A hx hb hr hml hown hts hlocks hname hK hE hA hP hD hS ls hl
  have hl : lv_has ls 4 [(0, .ref bx), (1, .int (nI k))] := hl
  have hown : s.vm.findClass RX2 = some m.cls := hown
  have hi2 : ∀ w ∈ wsX20, w ∈ wsX2_place := (fun _ h => List.mem_cons_of_mem _ (List.mem_append_right _ h))
  generalize hH : s.heap = H at hP
  have hS : va_S A s.heap H [] := by rw [← hH]; exact va_S.rf
  generalize hlo : ([] : List Loc) = locs at hS
  refine lv_aload_n hx hb dX2_place_0 rfl (lv_at hl 0 rfl) ?_
  refine m_get hx hb hts hi2 hown hK hP 5 (by decide) (List.mem_of_getElem? (i := 1) rfl) (v := .ref (ba 0)) rfl dX2_place_1 (fun _ h => h) ?_
  refine lv_iload_n hx hb dX2_place_4 rfl (lv_at hl 1 rfl) ?_
  refine m_ld0 hx hb hK hP hk dX2_place_5 ?_
  refine x_ifeq (tgt := 18) hx hb dX2_place_6 (by decide) (fun c_1 => ?_) (fun c_1 => ?_)
  · refine lv_iconst (v := (-1)) hx hb dX2_place_18 (by decide) ?_
    exact x_iret hx hb hr hlocks hK (σ) hP hD hS ⟨by simp [mPlace, c_1], rfl⟩ dX2_place_19
  · refine lv_aload_n hx hb dX2_place_9 rfl (lv_at hl 0 rfl) ?_
    refine m_get hx hb hts hi2 hown hK hP 6 (by decide) (List.mem_of_getElem? (i := 2) rfl) (v := .ref (ba 1)) rfl dX2_place_10 (fun _ h => h) ?_
    refine lv_iload_n hx hb dX2_place_13 rfl (lv_at hl 1 rfl) ?_
    refine m_ld1 hx hb hK hP hk dX2_place_14 ?_
    refine x_ifeq (tgt := 20) hx hb dX2_place_15 (by decide) (fun c_2 => ?_) (fun c_2 => ?_)
    · refine lv_iconst (v := 0) hx hb dX2_place_20 (by decide) ?_
      refine lv_istore_n (lv' := [(2, .int 0), (0, .ref bx), (1, .int (nI k))]) hx hb dX2_place_21 rfl hl (by decide) rfl (fun ls hl => ?_)
      refine lv_iconst (v := 0) hx hb dX2_place_22 (by decide) ?_
      refine lv_istore_n (lv' := [(3, .int 0), (2, .int 0), (0, .ref bx), (1, .int (nI k))]) hx hb dX2_place_23 rfl hl (by decide) rfl (fun ls hl => ?_)
      have loop : ∀ (n i : Nat) (ls : Array Slot) (H : Heap) (locs : List Loc), i ≤ 32 → 32 - i < n → va_P D vwCl (mW bx ba cI cJ cZ (σ)) H → va_D A (mW bx ba cI cJ cZ (σ)) → va_S A s.heap H locs → lv_has ls 4 [(0, .ref bx), (1, .int (nI k)), (2, .int (sumI (mPl σ k) i)), (3, .int (nI i))] → W p l e (headSpec wsX2_place ({ frames := 1, cells := 0, slots := 0, locals := 40 } : Room)).room s m [.ref bx, .int (nI k)].toArray below meth c H locs 0 0 (MQ below (va_Qi (fun (r : Int32) (u : St) => r = mPlace σ k ∧ u = σ) (xB D (mT cI cJ cZ) (mW bx ba cI cJ cZ) A) A) [.ref bx, .int (nI k)].toArray s 0 0 A) (F0 m 24 ls []) := by
        intro n
        induction n with
        | zero =>
          intro i ls H locs h1 h2
          exact absurd h2 (by omega)
        | succ n ih =>
          intro i ls H locs hi hn hP hD hS hl
          refine lv_iload_n hx hb dX2_place_24 rfl (lv_at hl 3 rfl) ?_
          refine lv_bipush (v := 32) hx hb dX2_place_25 (by decide) ?_
          refine x_icmp_ge (tgt := 76) hx hb dX2_place_27 (by decide) (fun c_3 => ?_) (fun c_3 => ?_)
          · have hi9 : i = 32 := by
              rcases Nat.lt_or_ge i 32 with q | q
              · exact absurd ((nI_lt32 hi).mpr q) c_3
              · omega
            subst hi9
            refine lv_iload_n hx hb dX2_place_76 rfl (lv_at hl 2 rfl) ?_
            exact x_iret hx hb hr hlocks hK (σ) hP hD hS ⟨by simp [mPlace, c_1, c_2], rfl⟩ dX2_place_77
          · have hlt : i < 32 := (nI_lt32 hi).mp c_3
            refine lv_iload_n hx hb dX2_place_30 rfl (lv_at hl 2 rfl) ?_
            refine lv_aload_n hx hb dX2_place_31 rfl (lv_at hl 0 rfl) ?_
            refine m_get hx hb hts hi2 hown hK hP 5 (by decide) (List.mem_of_getElem? (i := 1) rfl) (v := .ref (ba 0)) rfl dX2_place_32 (fun _ h => h) ?_
            refine lv_iload_n hx hb dX2_place_35 rfl (lv_at hl 3 rfl) ?_
            refine m_ld0 hx hb hK hP hlt dX2_place_36 ?_
            refine x_ifeq (tgt := 67) hx hb dX2_place_37 (by decide) (fun c_4 => ?_) (fun c_4 => ?_)
            · refine lv_iconst (v := 0) hx hb dX2_place_67 (by decide) ?_
              refine lv_iadd hx hb dX2_place_68 ?_
              refine lv_istore_n (lv' := [(2, .int ((sumI (mPl σ k) i) + 0)), (0, .ref bx), (1, .int (nI k)), (3, .int (nI i))]) hx hb dX2_place_69 rfl hl (by decide) rfl (fun ls hl => ?_)
              refine lv_iinc (v := (nI i) + 1) (lv' := [(3, .int ((nI i) + 1)), (2, .int ((sumI (mPl σ k) i) + 0)), (0, .ref bx), (1, .int (nI k))]) hx hb dX2_place_70 hl (k := 3) rfl rfl (by decide) rfl (fun ls hl => ?_)
              refine lv_goto (tgt := 24) hx hb dX2_place_73 (by decide) ?_
              have e9_0 : sumI (mPl σ k) (i + 1) = (sumI (mPl σ k) i) + 0 := by simp [sumI, mPl, Int32.add_zero, c_1, c_2, c_3, c_4]
              exact ih (i + 1) ls H locs (by omega) (by omega) hP hD hS (by rw [e9_0, nI_succ]; exact lv_sub hl [2, 3, 1, 0] rfl)
            · refine lv_aload_n hx hb dX2_place_40 rfl (lv_at hl 0 rfl) ?_
              refine m_get hx hb hts hi2 hown hK hP 6 (by decide) (List.mem_of_getElem? (i := 2) rfl) (v := .ref (ba 1)) rfl dX2_place_41 (fun _ h => h) ?_
              refine lv_iload_n hx hb dX2_place_44 rfl (lv_at hl 3 rfl) ?_
              refine m_ld1 hx hb hK hP hlt dX2_place_45 ?_
              refine x_ifne (tgt := 67) hx hb dX2_place_46 (by decide) (fun c_5 => ?_) (fun c_5 => ?_)
              · refine lv_iconst (v := 0) hx hb dX2_place_67 (by decide) ?_
                refine lv_iadd hx hb dX2_place_68 ?_
                refine lv_istore_n (lv' := [(2, .int ((sumI (mPl σ k) i) + 0)), (0, .ref bx), (1, .int (nI k)), (3, .int (nI i))]) hx hb dX2_place_69 rfl hl (by decide) rfl (fun ls hl => ?_)
                refine lv_iinc (v := (nI i) + 1) (lv' := [(3, .int ((nI i) + 1)), (2, .int ((sumI (mPl σ k) i) + 0)), (0, .ref bx), (1, .int (nI k))]) hx hb dX2_place_70 hl (k := 3) rfl rfl (by decide) rfl (fun ls hl => ?_)
                refine lv_goto (tgt := 24) hx hb dX2_place_73 (by decide) ?_
                have e9_0 : sumI (mPl σ k) (i + 1) = (sumI (mPl σ k) i) + 0 := by simp [sumI, mPl, Int32.add_zero, c_1, c_2, c_3, c_4, c_5]
                exact ih (i + 1) ls H locs (by omega) (by omega) hP hD hS (by rw [e9_0, nI_succ]; exact lv_sub hl [2, 3, 1, 0] rfl)
              · refine lv_iload_n hx hb dX2_place_49 rfl (lv_at hl 3 rfl) ?_
                refine lv_iload_n hx hb dX2_place_50 rfl (lv_at hl 1 rfl) ?_
                refine lv_icmp_eq (tgt := 67) hx hb dX2_place_51 (by decide) (fun c_6 => ?_) (fun c_6 => ?_)
                · refine lv_iconst (v := 0) hx hb dX2_place_67 (by decide) ?_
                  refine lv_iadd hx hb dX2_place_68 ?_
                  refine lv_istore_n (lv' := [(2, .int ((sumI (mPl σ k) i) + 0)), (0, .ref bx), (1, .int (nI k)), (3, .int (nI i))]) hx hb dX2_place_69 rfl hl (by decide) rfl (fun ls hl => ?_)
                  refine lv_iinc (v := (nI i) + 1) (lv' := [(3, .int ((nI i) + 1)), (2, .int ((sumI (mPl σ k) i) + 0)), (0, .ref bx), (1, .int (nI k))]) hx hb dX2_place_70 hl (k := 3) rfl rfl (by decide) rfl (fun ls hl => ?_)
                  refine lv_goto (tgt := 24) hx hb dX2_place_73 (by decide) ?_
                  have e9_0 : sumI (mPl σ k) (i + 1) = (sumI (mPl σ k) i) + 0 := by simp [sumI, mPl, Int32.add_zero, c_1, c_2, c_3, c_4, c_5, c_6]
                  exact ih (i + 1) ls H locs (by omega) (by omega) hP hD hS (by rw [e9_0, nI_succ]; exact lv_sub hl [2, 3, 1, 0] rfl)
                · refine lv_aload_n hx hb dX2_place_54 rfl (lv_at hl 0 rfl) ?_
                  refine lv_iload_n hx hb dX2_place_55 rfl (lv_at hl 3 rfl) ?_
                  refine lv_iload_n hx hb dX2_place_56 rfl (lv_at hl 1 rfl) ?_
                  refine x_calli (va_runV (As := [.int (nI i), .int (nI k)]) (rest := [.int (sumI (mPl σ k) i)]) ⟨hx, hb, hml, hown, hts⟩ (k_X2_isAhead l D bx ba cI cJ cZ H.size σ hlt hk) (cwV 2 hts gX2_place_X2_isAhead rfl rfl rfl (by decide +kernel) ⟨Nat.le_of_ble_eq_true rfl, Nat.le_of_ble_eq_true rfl⟩) (xPreV mE_ok hE hK hA hP hD hS (q0 := 0) (ci := 2) rfl rfl rfl) rfl rfl hl.1 rfl (lv_room (Nat.le_of_ble_eq_true rfl)) dX2_place_57 ⟨Nat.le_of_ble_eq_true rfl, Nat.le_of_ble_eq_true rfl⟩) hD hS hA (fun r u H locs hp hP hD hS => ?_)
                  obtain ⟨rfl, hu9⟩ := hp
                  rw [hu9] at hP hD
                  refine x_ifeq (tgt := 67) hx hb dX2_place_60 (by decide) (fun c_7 => ?_) (fun c_7 => ?_)
                  · refine lv_iconst (v := 0) hx hb dX2_place_67 (by decide) ?_
                    refine lv_iadd hx hb dX2_place_68 ?_
                    refine lv_istore_n (lv' := [(2, .int ((sumI (mPl σ k) i) + 0)), (0, .ref bx), (1, .int (nI k)), (3, .int (nI i))]) hx hb dX2_place_69 rfl hl (by decide) rfl (fun ls hl => ?_)
                    refine lv_iinc (v := (nI i) + 1) (lv' := [(3, .int ((nI i) + 1)), (2, .int ((sumI (mPl σ k) i) + 0)), (0, .ref bx), (1, .int (nI k))]) hx hb dX2_place_70 hl (k := 3) rfl rfl (by decide) rfl (fun ls hl => ?_)
                    refine lv_goto (tgt := 24) hx hb dX2_place_73 (by decide) ?_
                    have e9_0 : sumI (mPl σ k) (i + 1) = (sumI (mPl σ k) i) + 0 := by simp [sumI, mPl, Int32.add_zero, c_1, c_2, c_3, c_4, c_5, c_6, c_7]
                    exact ih (i + 1) ls H locs (by omega) (by omega) hP hD hS (by rw [e9_0, nI_succ]; exact lv_sub hl [2, 3, 1, 0] rfl)
                  · refine lv_iconst (v := 1) hx hb dX2_place_63 (by decide) ?_
                    refine lv_goto (tgt := 68) hx hb dX2_place_64 (by decide) ?_
                    refine lv_iadd hx hb dX2_place_68 ?_
                    refine lv_istore_n (lv' := [(2, .int ((sumI (mPl σ k) i) + 1)), (0, .ref bx), (1, .int (nI k)), (3, .int (nI i))]) hx hb dX2_place_69 rfl hl (by decide) rfl (fun ls hl => ?_)
                    refine lv_iinc (v := (nI i) + 1) (lv' := [(3, .int ((nI i) + 1)), (2, .int ((sumI (mPl σ k) i) + 1)), (0, .ref bx), (1, .int (nI k))]) hx hb dX2_place_70 hl (k := 3) rfl rfl (by decide) rfl (fun ls hl => ?_)
                    refine lv_goto (tgt := 24) hx hb dX2_place_73 (by decide) ?_
                    have e9_0 : sumI (mPl σ k) (i + 1) = (sumI (mPl σ k) i) + 1 := by simp [sumI, mPl, Int32.add_zero, c_1, c_2, c_3, c_4, c_5, c_6, c_7]
                    exact ih (i + 1) ls H locs (by omega) (by omega) hP hD hS (by rw [e9_0, nI_succ]; exact lv_sub hl [2, 3, 1, 0] rfl)
      exact loop 33 0 _ _ _ (Nat.zero_le _) (by decide) hP hD hS (lv_sub hl [2, 3, 1, 0] rfl)
    · refine lv_iconst (v := (-1)) hx hb dX2_place_18 (by decide) ?_
      exact x_iret hx hb hr hlocks hK (σ) hP hD hS ⟨by simp [mPlace, c_1, c_2], rfl⟩ dX2_place_19
set_option maxHeartbeats 4000000 in
set_option maxRecDepth 100000 in
theorem k_X2_at (l : Launch) (D : va_G) (bx : Nat) (ba : Nat → Nat) (cI cJ cZ : ClassId) (sz : Nat) (σ : St) (q : Int32) : Met l yX2_at wsX2_at ({ frames := 2, cells := 0, slots := 0, locals := 80 } : Room) (va_Pc [.ref bx, .int q] (xPre D (mT cI cJ cZ) mE (mW bx ba cI cJ cZ) σ sz)) (va_Qi (fun (r : Int32) (u : St) => r = oI (atR σ q 32) ∧ u = σ) (xB D (mT cI cJ cZ) (mW bx ba cI cJ cZ) (va_A (mW bx ba cI cJ cZ σ) sz)) (va_A (mW bx ba cI cJ cZ σ) sz)) 0 0 (va_A (mW bx ba cI cJ cZ σ) sz) := by
  refine xOpen (w := (mW bx ba cI cJ cZ)) (σ := σ) (cc := cX2_at) (maxL := 3) (ret := some .int) (QQ := fun A => va_Qi (fun (r : Int32) (u : St) => r = oI (atR σ q 32) ∧ u = σ) (xB D (mT cI cJ cZ) (mW bx ba cI cJ cZ) A) A) (by decide) rfl (Nat.le_of_ble_eq_true rfl) ?_
  intro p e s m below meth c A hx hb hr hml hown hts hlocks hname hK hE hA hP hD hS ls hl
  have hl : lv_has ls 3 [(0, .ref bx), (1, .int q)] := hl
  have hown : s.vm.findClass RX2 = some m.cls := hown
  have hi2 : ∀ w ∈ wsX20, w ∈ wsX2_at := (fun _ h => List.mem_cons_of_mem _ (List.mem_append_right _ h))
  generalize hH : s.heap = H at hP
  have hS : va_S A s.heap H [] := by rw [← hH]; exact va_S.rf
  generalize hlo : ([] : List Loc) = locs at hS
  refine lv_iconst (v := 0) hx hb dX2_at_0 (by decide) ?_
  refine lv_istore_n (lv' := [(2, .int 0), (0, .ref bx), (1, .int q)]) hx hb dX2_at_1 rfl hl (by decide) rfl (fun ls hl => ?_)
  have loop : ∀ (n i : Nat) (ls : Array Slot) (H : Heap) (locs : List Loc), i ≤ 32 → 32 - i < n → atR σ q i = none → va_P D vwCl (mW bx ba cI cJ cZ σ) H → va_D A (mW bx ba cI cJ cZ σ) → va_S A s.heap H locs → lv_has ls 3 [(0, .ref bx), (1, .int q), (2, .int (nI i))] → W p l e (headSpec wsX2_at ({ frames := 2, cells := 0, slots := 0, locals := 80 } : Room)).room s m [.ref bx, .int q].toArray below meth c H locs 0 0 (MQ below (va_Qi (fun (r : Int32) (u : St) => r = oI (atR σ q 32) ∧ u = σ) (xB D (mT cI cJ cZ) (mW bx ba cI cJ cZ) A) A) [.ref bx, .int q].toArray s 0 0 A) (F0 m 2 ls []) := by
    intro n
    induction n with
    | zero =>
      intro i ls H locs h1 h2
      exact absurd h2 (by omega)
    | succ n ih =>
      intro i ls H locs hi hn hat hP hD hS hl
      refine lv_iload_n hx hb dX2_at_2 rfl (lv_at hl 2 rfl) ?_
      refine lv_bipush (v := 32) hx hb dX2_at_3 (by decide) ?_
      refine x_icmp_ge (tgt := 25) hx hb dX2_at_5 (by decide) (fun c_1 => ?_) (fun c_1 => ?_)
      · have hi9 : i = 32 := by
          rcases Nat.lt_or_ge i 32 with q9 | q9
          · exact absurd ((nI_lt32 hi).mpr q9) c_1
          · omega
        subst hi9
        refine lv_iconst (v := (-1)) hx hb dX2_at_25 (by decide) ?_
        exact x_iret hx hb hr hlocks hK (σ) hP hD hS ⟨by rw [hat]; rfl, rfl⟩ dX2_at_26
      · have hlt : i < 32 := (nI_lt32 hi).mp c_1
        refine lv_aload_n hx hb dX2_at_8 rfl (lv_at hl 0 rfl) ?_
        refine lv_iload_n hx hb dX2_at_9 rfl (lv_at hl 2 rfl) ?_
        refine x_calli (va_runV (As := [.int (nI i)]) (rest := []) ⟨hx, hb, hml, hown, hts⟩ (k_X2_place l D bx ba cI cJ cZ H.size σ hlt) (cwV 1 hts gX2_at_X2_place rfl rfl rfl (by decide +kernel) ⟨Nat.le_of_ble_eq_true rfl, Nat.le_of_ble_eq_true rfl⟩) (xPreV mE_ok hE hK hA hP hD hS (q0 := 0) (ci := 2) rfl rfl rfl) rfl rfl hl.1 rfl (lv_room (Nat.le_of_ble_eq_true rfl)) dX2_at_10 ⟨Nat.le_of_ble_eq_true rfl, Nat.le_of_ble_eq_true rfl⟩) hD hS hA (fun r u H locs hp hP hD hS => ?_)
        obtain ⟨rfl, hu9⟩ := hp
        rw [hu9] at hP hD
        refine lv_iload_n hx hb dX2_at_13 rfl (lv_at hl 1 rfl) ?_
        refine lv_icmp_ne (tgt := 19) hx hb dX2_at_14 (by decide) (fun c_2 => ?_) (fun c_2 => ?_)
        · refine lv_iinc (v := (nI i) + 1) (lv' := [(2, .int ((nI i) + 1)), (0, .ref bx), (1, .int q)]) hx hb dX2_at_19 hl (k := 2) rfl rfl (by decide) rfl (fun ls hl => ?_)
          refine lv_goto (tgt := 2) hx hb dX2_at_22 (by decide) ?_
          exact ih (i + 1) ls H locs (by omega) (by omega) (atR_none hat c_2) hP hD hS (by rw [nI_succ]; exact lv_sub hl [1, 2, 0] rfl)
        · refine lv_iload_n hx hb dX2_at_17 rfl (lv_at hl 2 rfl) ?_
          exact x_iret hx hb hr hlocks hK (σ) hP hD hS ⟨by rw [atR_some hat c_2 hlt]; rfl, rfl⟩ dX2_at_18
  exact loop 33 0 _ _ _ (Nat.zero_le _) (by decide) rfl hP hD hS (lv_sub hl [1, 2, 0] rfl)
set_option maxHeartbeats 4000000 in
set_option maxRecDepth 100000 in
theorem k_X2_firstLeaves (l : Launch) (D : va_G) (bx : Nat) (ba : Nat → Nat) (cI cJ cZ : ClassId) (sz : Nat) (σ : St) {k : Nat} (hk : k < 32) (h0 : atR σ 0 32 = some k) : Met l yX2_firstLeaves wsX2_firstLeaves ({ frames := 3, cells := 0, slots := 0, locals := 120 } : Room) (va_Pc [.ref bx] (xPre D (mT cI cJ cZ) mE (mW bx ba cI cJ cZ) σ sz)) (va_Qv (fun (u : St) => u = mLv1 σ k) (xB D (mT cI cJ cZ) (mW bx ba cI cJ cZ) (va_A (mW bx ba cI cJ cZ σ) sz)) (va_A (mW bx ba cI cJ cZ σ) sz)) 0 0 (va_A (mW bx ba cI cJ cZ σ) sz) := by
  refine xOpen (w := (mW bx ba cI cJ cZ)) (σ := σ) (cc := cX2_firstLeaves) (maxL := 2) (ret := none) (QQ := fun A => va_Qv (fun (u : St) => u = mLv1 σ k) (xB D (mT cI cJ cZ) (mW bx ba cI cJ cZ) A) A) (by decide) rfl (Nat.le_of_ble_eq_true rfl) ?_
  intro p e s m below meth c A hx hb hr hml hown hts hlocks hname hK hE hA hP hD hS ls hl
  have hl : lv_has ls 2 [(0, .ref bx)] := hl
  have hown : s.vm.findClass RX2 = some m.cls := hown
  have hi2 : ∀ w ∈ wsX20, w ∈ wsX2_firstLeaves := (fun _ h => List.mem_cons_of_mem _ (List.mem_append_right _ h))
  generalize hH : s.heap = H at hP
  have hS : va_S A s.heap H [] := by rw [← hH]; exact va_S.rf
  generalize hlo : ([] : List Loc) = locs at hS
  refine lv_aload_n hx hb dX2_firstLeaves_0 rfl (lv_at hl 0 rfl) ?_
  refine lv_iconst (v := 0) hx hb dX2_firstLeaves_1 (by decide) ?_
  refine x_calli (va_runV (As := [.int 0]) (rest := []) ⟨hx, hb, hml, hown, hts⟩ (k_X2_at l D bx ba cI cJ cZ H.size σ 0) (cwV 1 hts gX2_firstLeaves_X2_at rfl rfl rfl (by decide +kernel) ⟨Nat.le_of_ble_eq_true rfl, Nat.le_of_ble_eq_true rfl⟩) (xPreV mE_ok hE hK hA hP hD hS (q0 := 0) (ci := 2) rfl rfl rfl) rfl rfl hl.1 rfl (lv_room (Nat.le_of_ble_eq_true rfl)) dX2_firstLeaves_2 ⟨Nat.le_of_ble_eq_true rfl, Nat.le_of_ble_eq_true rfl⟩) hD hS hA (fun r u H locs hp hP hD hS => ?_)
  obtain ⟨rfl, hu9⟩ := hp
  rw [hu9] at hP hD
  rw [h0]
  refine W.eq (g2 := F0 m 5 ls [.int (nI k)]) rfl ?_
  refine lv_istore_n (lv' := [(1, .int (nI k)), (0, .ref bx)]) hx hb dX2_firstLeaves_5 rfl hl (by decide) rfl (fun ls hl => ?_)
  refine lv_aload_n hx hb dX2_firstLeaves_6 rfl (lv_at hl 1 rfl) ?_
  refine m_get hx hb hts hi2 hown hK hP 5 (by decide) (List.mem_of_getElem? (i := 1) rfl) (v := .ref (ba 0)) rfl dX2_firstLeaves_7 (fun _ h => h) ?_
  refine lv_iload_n hx hb dX2_firstLeaves_10 rfl (lv_at hl 0 rfl) ?_
  refine lv_iconst (v := 0) hx hb dX2_firstLeaves_11 (by decide) ?_
  refine m_st0 (v := false) hx hb hK hP hD hS hk dX2_firstLeaves_12 (fun H locs hP hD hS => ?_)
  refine lv_aload_n hx hb dX2_firstLeaves_13 rfl (lv_at hl 1 rfl) ?_
  refine lv_aload_n hx hb dX2_firstLeaves_14 rfl (lv_at hl 1 rfl) ?_
  refine m_get hx hb hts hi2 hown hK hP 10 (by decide) (List.mem_of_getElem? (i := 2) rfl) (v := .ref (ba 5)) rfl dX2_firstLeaves_15 (fun _ h => h) ?_
  refine lv_iload_n hx hb dX2_firstLeaves_18 rfl (lv_at hl 0 rfl) ?_
  refine m_ld5 hx hb hK hP hk dX2_firstLeaves_19 ?_
  refine W.eq (g2 := F0 m 20 ls [.long (gT σ 6 k), .ref bx]) rfl ?_
  refine lv_aload_n hx hb dX2_firstLeaves_20 rfl (lv_at hl 1 rfl) ?_
  refine m_get hx hb hts hi2 hown hK hP 3 (by decide) (List.mem_of_getElem? (i := 3) rfl) (v := .long (gL σ 2)) rfl dX2_firstLeaves_21 (fun _ h => h) ?_
  refine x_le (tgt := 37) hx hb dX2_firstLeaves_24 dX2_firstLeaves_25 (by decide) (fun c_1 => ?_) (fun c_1 => ?_)
  · refine lv_aload_n hx hb dX2_firstLeaves_37 rfl (lv_at hl 1 rfl) ?_
    refine m_get hx hb hts hi2 hown hK hP 3 (by decide) (List.mem_of_getElem? (i := 3) rfl) (v := .long (gL σ 2)) rfl dX2_firstLeaves_38 (fun _ h => h) ?_
    refine m_put hx hb hts hi2 hown hK hP hD hS 3 (by decide) (List.mem_of_getElem? (i := 3) rfl) (v := .long (gL σ 2)) (ty := .long) (uL (uB σ 1 k false) 2 (gL σ 2)) (mF_3 bx ba cI cJ cZ _ _) rfl (by decide +kernel) rfl rfl dX2_firstLeaves_41 (fun _ h => h) (fun H locs hP hD hS => ?_)
    refine lv_aload_n hx hb dX2_firstLeaves_44 rfl (lv_at hl 1 rfl) ?_
    refine lv_dup hx hb dX2_firstLeaves_45 rfl ?_
    refine m_get hx hb hts hi2 hown hK hP 19 (by decide) (List.mem_of_getElem? (i := 4) rfl) (v := .int (gI σ 11)) rfl dX2_firstLeaves_46 (fun _ h => h) ?_
    refine lv_iconst (v := 1) hx hb dX2_firstLeaves_49 (by decide) ?_
    refine lv_iadd hx hb dX2_firstLeaves_50 ?_
    refine m_put hx hb hts hi2 hown hK hP hD hS 19 (by decide) (List.mem_of_getElem? (i := 4) rfl) (v := .int ((gI σ 11) + 1)) (ty := .int) (uI (uL (uB σ 1 k false) 2 (gL σ 2)) 11 ((gI σ 11) + 1)) (mF_19 bx ba cI cJ cZ _ _) rfl (by decide +kernel) rfl rfl dX2_firstLeaves_51 (fun _ h => h) (fun H locs hP hD hS => ?_)
    exact x_vret hx hb hr hlocks hK (uI (uL (uB σ 1 k false) 2 (gL σ 2)) 11 ((gI σ 11) + 1)) hP hD hS (by simp [mLv1, c_1]) dX2_firstLeaves_54
  · refine lv_aload_n hx hb dX2_firstLeaves_28 rfl (lv_at hl 1 rfl) ?_
    refine m_get hx hb hts hi2 hown hK hP 10 (by decide) (List.mem_of_getElem? (i := 2) rfl) (v := .ref (ba 5)) rfl dX2_firstLeaves_29 (fun _ h => h) ?_
    refine lv_iload_n hx hb dX2_firstLeaves_32 rfl (lv_at hl 0 rfl) ?_
    refine m_ld5 hx hb hK hP hk dX2_firstLeaves_33 ?_
    refine W.eq (g2 := F0 m 34 ls [.long (gT σ 6 k), .ref bx]) rfl ?_
    refine lv_goto (tgt := 41) hx hb dX2_firstLeaves_34 (by decide) ?_
    refine m_put hx hb hts hi2 hown hK hP hD hS 3 (by decide) (List.mem_of_getElem? (i := 3) rfl) (v := .long (gT σ 6 k)) (ty := .long) (uL (uB σ 1 k false) 2 (gT σ 6 k)) (mF_3 bx ba cI cJ cZ _ _) rfl (by decide +kernel) rfl rfl dX2_firstLeaves_41 (fun _ h => h) (fun H locs hP hD hS => ?_)
    refine lv_aload_n hx hb dX2_firstLeaves_44 rfl (lv_at hl 1 rfl) ?_
    refine lv_dup hx hb dX2_firstLeaves_45 rfl ?_
    refine m_get hx hb hts hi2 hown hK hP 19 (by decide) (List.mem_of_getElem? (i := 4) rfl) (v := .int (gI σ 11)) rfl dX2_firstLeaves_46 (fun _ h => h) ?_
    refine lv_iconst (v := 1) hx hb dX2_firstLeaves_49 (by decide) ?_
    refine lv_iadd hx hb dX2_firstLeaves_50 ?_
    refine m_put hx hb hts hi2 hown hK hP hD hS 19 (by decide) (List.mem_of_getElem? (i := 4) rfl) (v := .int ((gI σ 11) + 1)) (ty := .int) (uI (uL (uB σ 1 k false) 2 (gT σ 6 k)) 11 ((gI σ 11) + 1)) (mF_19 bx ba cI cJ cZ _ _) rfl (by decide +kernel) rfl rfl dX2_firstLeaves_51 (fun _ h => h) (fun H locs hP hD hS => ?_)
    exact x_vret hx hb hr hlocks hK (uI (uL (uB σ 1 k false) 2 (gT σ 6 k)) 11 ((gI σ 11) + 1)) hP hD hS (by simp [mLv1, c_1]) dX2_firstLeaves_54
