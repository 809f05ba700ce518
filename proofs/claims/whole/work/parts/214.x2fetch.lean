set_option maxHeartbeats 4000000 in
set_option maxRecDepth 100000 in
theorem k_X2_fetch (l : Launch) (D : va_G) (bx : Nat) (ba : Nat → Nat) (cI cJ cZ : ClassId) (sz : Nat) (σ : St) (t sz9 pr lf : Int32) (N : Nat) (τ : Nat → St) (h : ∀ k, k < 32 → t = nI k → gI (mRoom0 (mMiss (uI (uI σ 20 0) 20 0) k pr) sz9) 3 < mPin (mRoom0 (mMiss (uI (uI σ 20 0) 20 0) k pr) sz9) true + sz9 ∨ (τ 0 = (mRoom0 (mMiss (uI (uI σ 20 0) 20 0) k pr) sz9) ∧ mRun (fun s => gI s 3 < used s + sz9) N τ)) : Met l yX2_fetch wsX2_fetch ({ frames := 5, cells := 0, slots := 0, locals := 190 } : Room) (va_Pc [.ref bx, .int t, .int sz9, .int pr, .int lf] (xPre D (mT cI cJ cZ) mE (mW bx ba cI cJ cZ) σ sz)) (va_Qi (fun (r : Int32) (u : St) => (isT t = false → r = 0 ∧ u = uI σ 20 1) ∧ (∀ q9, q9 < 32 → t = nI q9 → ((inR sz9 1 1000 && inR pr 0 1000 && inR lf 1 10000) = false → r = 0 ∧ u = uI (uI σ 20 0) 20 2) ∧ ((inR sz9 1 1000 && inR pr 0 1000 && inR lf 1 10000) = true → r = (mFetch (uI (uI σ 20 0) 20 0) q9 sz9 pr lf (τ N)).1 ∧ u = (mFetch (uI (uI σ 20 0) 20 0) q9 sz9 pr lf (τ N)).2))) (xB D (mT cI cJ cZ) (mW bx ba cI cJ cZ) (va_A (mW bx ba cI cJ cZ σ) sz)) (va_A (mW bx ba cI cJ cZ σ) sz)) 0 0 (va_A (mW bx ba cI cJ cZ σ) sz) := by
  refine xOpen (w := (mW bx ba cI cJ cZ)) (σ := σ) (cc := cX2_fetch) (maxL := 6) (ret := some .int) (QQ := fun A => va_Qi (fun (r : Int32) (u : St) => (isT t = false → r = 0 ∧ u = uI σ 20 1) ∧ (∀ q9, q9 < 32 → t = nI q9 → ((inR sz9 1 1000 && inR pr 0 1000 && inR lf 1 10000) = false → r = 0 ∧ u = uI (uI σ 20 0) 20 2) ∧ ((inR sz9 1 1000 && inR pr 0 1000 && inR lf 1 10000) = true → r = (mFetch (uI (uI σ 20 0) 20 0) q9 sz9 pr lf (τ N)).1 ∧ u = (mFetch (uI (uI σ 20 0) 20 0) q9 sz9 pr lf (τ N)).2))) (xB D (mT cI cJ cZ) (mW bx ba cI cJ cZ) A) A) (by decide) rfl (Nat.le_of_ble_eq_true rfl) ?_
  intro p e s m below meth c A hx hb hr hml hown hts hlocks hname hK hE hA hP hD hS ls hl
  have hl : lv_has ls 6 [(0, .ref bx), (1, .int t), (2, .int sz9), (3, .int pr), (4, .int lf)] := hl
  have hown : s.vm.findClass RX2 = some m.cls := hown
  have hi2 : ∀ w ∈ wsX20, w ∈ wsX2_fetch := (fun _ h => List.mem_cons_of_mem _ (List.mem_append_right _ h))
  generalize hH : s.heap = H at hP
  have hS : va_S A s.heap H [] := by rw [← hH]; exact va_S.rf
  generalize hlo : ([] : List Loc) = locs at hS
  refine lv_aload_n hx hb dX2_fetch_0 rfl (lv_at hl 0 rfl) ?_
  refine lv_iload_n hx hb dX2_fetch_1 rfl (lv_at hl 1 rfl) ?_
  refine x_calli (va_runV (As := [.int t]) (rest := []) ⟨hx, hb, hml, hown, hts⟩ (k_X2_isThing l D bx ba cI cJ cZ H.size σ t) (cwV 1 hts gX2_fetch_X2_isThing rfl rfl rfl (by decide +kernel) ⟨Nat.le_of_ble_eq_true rfl, Nat.le_of_ble_eq_true rfl⟩) (xPreV mE_ok hE hK hA hP hD hS (q0 := 0) (ci := 2) rfl rfl rfl) rfl rfl hl.1 rfl (lv_room (Nat.le_of_ble_eq_true rfl)) dX2_fetch_2 ⟨Nat.le_of_ble_eq_true rfl, Nat.le_of_ble_eq_true rfl⟩) hD hS hA (fun r u H locs hp hP hD hS => ?_)
  obtain ⟨rfl, hu9⟩ := hp
  rw [hu9] at hP hD
  refine x_ifne (tgt := 10) hx hb dX2_fetch_5 (by decide) (fun c_1 => ?_) (fun c_1 => ?_)
  · rw [if_pos c_1] at hP hD
    have hT := c_1
    obtain ⟨k, hk, rfl⟩ := isT_nI c_1
    have hl : lv_has ls 6 [(0, .ref bx), (1, .int (nI k)), (2, .int sz9), (3, .int pr), (4, .int lf)] := hl
    refine lv_aload_n hx hb dX2_fetch_10 rfl (lv_at hl 0 rfl) ?_
    refine lv_iload_n hx hb dX2_fetch_11 rfl (lv_at hl 2 rfl) ?_
    refine lv_iconst (v := 1) hx hb dX2_fetch_12 (by decide) ?_
    refine lv_sipush (v := 1000) hx hb dX2_fetch_13 (by decide) ?_
    refine x_calli (va_runS (As := [.int sz9, .int 1, .int 1000]) (rest := [.ref bx]) ⟨hx, hb, hml, hown, hts⟩ (k_X2_in l D bx ba cI cJ cZ H.size (uI σ 20 0) sz9 1 1000) (va_cwS 3 hts gX2_fetch_X2_in rfl rfl rfl (by decide +kernel) ⟨Nat.le_of_ble_eq_true rfl, Nat.le_of_ble_eq_true rfl⟩) (xPreS mE_ok hE hK hA hP hD hS) rfl rfl hl.1 rfl (lv_room (Nat.le_of_ble_eq_true rfl)) dX2_fetch_16 ⟨Nat.le_of_ble_eq_true rfl, Nat.le_of_ble_eq_true rfl⟩) hD hS hA (fun r u H locs hp hP hD hS => ?_)
    obtain ⟨rfl, hu9⟩ := hp
    rw [hu9] at hP hD
    refine x_ifeq (tgt := 49) hx hb dX2_fetch_19 (by decide) (fun c_2 => ?_) (fun c_2 => ?_)
    · refine lv_iconst (v := 2) hx hb dX2_fetch_49 (by decide) ?_
      refine m_put hx hb hts hi2 hown hK hP hD hS 21 (by decide) (List.mem_of_getElem? (i := 1) rfl) (v := .int 2) (ty := .int) (uI (uI σ 20 0) 20 2) (mF_21 bx ba cI cJ cZ _ _) rfl (by decide +kernel) rfl rfl dX2_fetch_50 (fun _ h => h) (fun H locs hP hD hS => ?_)
      refine lv_aload_n hx hb dX2_fetch_53 rfl (lv_at hl 0 rfl) ?_
      refine m_get hx hb hts hi2 hown hK hP 21 (by decide) (List.mem_of_getElem? (i := 1) rfl) (v := .int 2) rfl dX2_fetch_54 (fun _ h => h) ?_
      refine lv_if_le (tgt := 62) hx hb dX2_fetch_57 (by decide) (fun c_3 => absurd c_3 (by decide)) (fun _ => ?_)
      refine lv_iconst (v := 0) hx hb dX2_fetch_60 (by decide) ?_
      exact x_iret hx hb hr hlocks hK (uI (uI σ 20 0) 20 2) hP hD hS ⟨fun h9 => absurd h9 (by first | decide | (rw [hT]; decide)), fun j hj e9 => ⟨fun _ => ⟨rfl, rfl⟩, fun h9 => absurd h9 (by simp [c_2])⟩⟩ dX2_fetch_61
    · refine lv_iload_n hx hb dX2_fetch_22 rfl (lv_at hl 3 rfl) ?_
      refine lv_iconst (v := 0) hx hb dX2_fetch_23 (by decide) ?_
      refine lv_sipush (v := 1000) hx hb dX2_fetch_24 (by decide) ?_
      refine x_calli (va_runS (As := [.int pr, .int 0, .int 1000]) (rest := [.ref bx]) ⟨hx, hb, hml, hown, hts⟩ (k_X2_in l D bx ba cI cJ cZ H.size (uI σ 20 0) pr 0 1000) (va_cwS 3 hts gX2_fetch_X2_in rfl rfl rfl (by decide +kernel) ⟨Nat.le_of_ble_eq_true rfl, Nat.le_of_ble_eq_true rfl⟩) (xPreS mE_ok hE hK hA hP hD hS) rfl rfl hl.1 rfl (lv_room (Nat.le_of_ble_eq_true rfl)) dX2_fetch_27 ⟨Nat.le_of_ble_eq_true rfl, Nat.le_of_ble_eq_true rfl⟩) hD hS hA (fun r u H locs hp hP hD hS => ?_)
      obtain ⟨rfl, hu9⟩ := hp
      rw [hu9] at hP hD
      refine x_ifeq (tgt := 49) hx hb dX2_fetch_30 (by decide) (fun c_4 => ?_) (fun c_4 => ?_)
      · refine lv_iconst (v := 2) hx hb dX2_fetch_49 (by decide) ?_
        refine m_put hx hb hts hi2 hown hK hP hD hS 21 (by decide) (List.mem_of_getElem? (i := 1) rfl) (v := .int 2) (ty := .int) (uI (uI σ 20 0) 20 2) (mF_21 bx ba cI cJ cZ _ _) rfl (by decide +kernel) rfl rfl dX2_fetch_50 (fun _ h => h) (fun H locs hP hD hS => ?_)
        refine lv_aload_n hx hb dX2_fetch_53 rfl (lv_at hl 0 rfl) ?_
        refine m_get hx hb hts hi2 hown hK hP 21 (by decide) (List.mem_of_getElem? (i := 1) rfl) (v := .int 2) rfl dX2_fetch_54 (fun _ h => h) ?_
        refine lv_if_le (tgt := 62) hx hb dX2_fetch_57 (by decide) (fun c_5 => absurd c_5 (by decide)) (fun _ => ?_)
        refine lv_iconst (v := 0) hx hb dX2_fetch_60 (by decide) ?_
        exact x_iret hx hb hr hlocks hK (uI (uI σ 20 0) 20 2) hP hD hS ⟨fun h9 => absurd h9 (by first | decide | (rw [hT]; decide)), fun j hj e9 => ⟨fun _ => ⟨rfl, rfl⟩, fun h9 => absurd h9 (by simp [c_2, c_4])⟩⟩ dX2_fetch_61
      · refine lv_iload hx hb dX2_fetch_33 (lv_at hl 4 rfl) ?_
        refine lv_iconst (v := 1) hx hb dX2_fetch_35 (by decide) ?_
        refine lv_sipush (v := 10000) hx hb dX2_fetch_36 (by decide) ?_
        refine x_calli (va_runS (As := [.int lf, .int 1, .int 10000]) (rest := [.ref bx]) ⟨hx, hb, hml, hown, hts⟩ (k_X2_in l D bx ba cI cJ cZ H.size (uI σ 20 0) lf 1 10000) (va_cwS 3 hts gX2_fetch_X2_in rfl rfl rfl (by decide +kernel) ⟨Nat.le_of_ble_eq_true rfl, Nat.le_of_ble_eq_true rfl⟩) (xPreS mE_ok hE hK hA hP hD hS) rfl rfl hl.1 rfl (lv_room (Nat.le_of_ble_eq_true rfl)) dX2_fetch_39 ⟨Nat.le_of_ble_eq_true rfl, Nat.le_of_ble_eq_true rfl⟩) hD hS hA (fun r u H locs hp hP hD hS => ?_)
        obtain ⟨rfl, hu9⟩ := hp
        rw [hu9] at hP hD
        refine x_ifeq (tgt := 49) hx hb dX2_fetch_42 (by decide) (fun c_6 => ?_) (fun c_6 => ?_)
        · refine lv_iconst (v := 2) hx hb dX2_fetch_49 (by decide) ?_
          refine m_put hx hb hts hi2 hown hK hP hD hS 21 (by decide) (List.mem_of_getElem? (i := 1) rfl) (v := .int 2) (ty := .int) (uI (uI σ 20 0) 20 2) (mF_21 bx ba cI cJ cZ _ _) rfl (by decide +kernel) rfl rfl dX2_fetch_50 (fun _ h => h) (fun H locs hP hD hS => ?_)
          refine lv_aload_n hx hb dX2_fetch_53 rfl (lv_at hl 0 rfl) ?_
          refine m_get hx hb hts hi2 hown hK hP 21 (by decide) (List.mem_of_getElem? (i := 1) rfl) (v := .int 2) rfl dX2_fetch_54 (fun _ h => h) ?_
          refine lv_if_le (tgt := 62) hx hb dX2_fetch_57 (by decide) (fun c_7 => absurd c_7 (by decide)) (fun _ => ?_)
          refine lv_iconst (v := 0) hx hb dX2_fetch_60 (by decide) ?_
          exact x_iret hx hb hr hlocks hK (uI (uI σ 20 0) 20 2) hP hD hS ⟨fun h9 => absurd h9 (by first | decide | (rw [hT]; decide)), fun j hj e9 => ⟨fun _ => ⟨rfl, rfl⟩, fun h9 => absurd h9 (by simp [c_2, c_4, c_6])⟩⟩ dX2_fetch_61
        · refine lv_iconst (v := 0) hx hb dX2_fetch_45 (by decide) ?_
          refine lv_goto (tgt := 50) hx hb dX2_fetch_46 (by decide) ?_
          refine m_put hx hb hts hi2 hown hK hP hD hS 21 (by decide) (List.mem_of_getElem? (i := 1) rfl) (v := .int 0) (ty := .int) (uI (uI σ 20 0) 20 0) (mF_21 bx ba cI cJ cZ _ _) rfl (by decide +kernel) rfl rfl dX2_fetch_50 (fun _ h => h) (fun H locs hP hD hS => ?_)
          refine lv_aload_n hx hb dX2_fetch_53 rfl (lv_at hl 0 rfl) ?_
          refine m_get hx hb hts hi2 hown hK hP 21 (by decide) (List.mem_of_getElem? (i := 1) rfl) (v := .int 0) rfl dX2_fetch_54 (fun _ h => h) ?_
          refine lv_if_le (tgt := 62) hx hb dX2_fetch_57 (by decide) (fun _ => ?_) (fun c_8 => absurd (by decide) c_8)
          have hok : (inR sz9 1 1000 && inR pr 0 1000 && inR lf 1 10000) = true := by simp [c_2, c_4, c_6]
          have hz9 : ¬ sz9 = 0 := inR_ne0 c_2
          have B145 : ∀ (H : Heap) (locs : List Loc) (ls : Array Slot), (gB (uI (uI σ 20 0) 20 0) 1 k && !ovr (uI (uI σ 20 0) 20 0) k && decide (gS (uI (uI σ 20 0) 20 0) 3 k = sz9)) = false → va_P D vwCl (mW bx ba cI cJ cZ (uI (uI σ 20 0) 20 0)) H → va_D A (mW bx ba cI cJ cZ (uI (uI σ 20 0) 20 0)) → va_S A s.heap H locs → lv_has ls 6 [(0, .ref bx), (1, .int (nI k)), (2, .int sz9), (3, .int pr), (4, .int lf)] → W p l e (headSpec wsX2_fetch ({ frames := 5, cells := 0, slots := 0, locals := 190 } : Room)).room s m [.ref bx, .int (nI k), .int sz9, .int pr, .int lf].toArray below meth c H locs 0 0 (MQ below (va_Qi (fun (r : Int32) (u : St) => (isT (nI k) = false → r = 0 ∧ u = uI σ 20 1) ∧ (∀ q9, q9 < 32 → (nI k) = nI q9 → ((inR sz9 1 1000 && inR pr 0 1000 && inR lf 1 10000) = false → r = 0 ∧ u = uI (uI σ 20 0) 20 2) ∧ ((inR sz9 1 1000 && inR pr 0 1000 && inR lf 1 10000) = true → r = (mFetch (uI (uI σ 20 0) 20 0) q9 sz9 pr lf (τ N)).1 ∧ u = (mFetch (uI (uI σ 20 0) 20 0) q9 sz9 pr lf (τ N)).2))) (xB D (mT cI cJ cZ) (mW bx ba cI cJ cZ) A) A) [.ref bx, .int (nI k), .int sz9, .int pr, .int lf].toArray s 0 0 A) (F0 m 145 ls []) := by
            intro H locs ls hh hP hD hS hl
            refine lv_aload_n hx hb dX2_fetch_145 rfl (lv_at hl 0 rfl) ?_
            refine m_get hx hb hts hi2 hown hK hP 13 (by decide) (List.mem_of_getElem? (i := 9) rfl) (v := .ref (ba 8)) rfl dX2_fetch_146 (fun _ h => h) ?_
            refine lv_iload_n hx hb dX2_fetch_149 rfl (lv_at hl 1 rfl) ?_
            refine m_ld8 hx hb hK hP hk dX2_fetch_150 ?_
            refine W.eq (g2 := F0 m 151 ls [.int (gS σ 8 k)]) rfl ?_
            refine lv_iconst (v := (-1)) hx hb dX2_fetch_151 (by decide) ?_
            refine lv_icmp_eq (tgt := 175) hx hb dX2_fetch_152 (by decide) (fun c_9 => ?_) (fun c_9 => ?_)
            · refine lv_iconst (v := 0) hx hb dX2_fetch_175 (by decide) ?_
              refine lv_istore (lv' := [(5, .int 0), (0, .ref bx), (1, .int (nI k)), (2, .int sz9), (3, .int pr), (4, .int lf)]) hx hb dX2_fetch_176 hl (by decide) rfl (fun ls hl => ?_)
              have eL : cLate (uI (uI σ 20 0) 20 0) k = false := by
                show cLate σ k = _
                simp [cLate, c_9]
              refine lv_aload_n hx hb dX2_fetch_178 rfl (lv_at hl 1 rfl) ?_
              refine m_get hx hb hts hi2 hown hK hP 13 (by decide) (List.mem_of_getElem? (i := 9) rfl) (v := .ref (ba 8)) rfl dX2_fetch_179 (fun _ h => h) ?_
              refine lv_iload_n hx hb dX2_fetch_182 rfl (lv_at hl 2 rfl) ?_
              refine lv_aload_n hx hb dX2_fetch_183 rfl (lv_at hl 1 rfl) ?_
              refine m_get hx hb hts hi2 hown hK hP 2 (by decide) (List.mem_of_getElem? (i := 10) rfl) (v := .int (gI σ 1)) rfl dX2_fetch_184 (fun _ h => h) ?_
              refine m_st8 (v := (gI σ 1)) hx hb hK hP hD hS hk dX2_fetch_187 (fun H locs hP hD hS => ?_)
              refine lv_aload_n hx hb dX2_fetch_188 rfl (lv_at hl 1 rfl) ?_
              refine lv_dup hx hb dX2_fetch_189 rfl ?_
              refine m_get hx hb hts hi2 hown hK hP 15 (by decide) (List.mem_of_getElem? (i := 11) rfl) (v := .int (gI σ 7)) rfl dX2_fetch_190 (fun _ h => h) ?_
              refine lv_iconst (v := 1) hx hb dX2_fetch_193 (by decide) ?_
              refine lv_iadd hx hb dX2_fetch_194 ?_
              refine m_put hx hb hts hi2 hown hK hP hD hS 15 (by decide) (List.mem_of_getElem? (i := 11) rfl) (v := .int ((gI σ 7) + 1)) (ty := .int) (uI (uS (uI (uI σ 20 0) 20 0) 8 k (gI σ 1)) 7 ((gI σ 7) + 1)) (mF_15 bx ba cI cJ cZ _ _) rfl (by decide +kernel) rfl rfl dX2_fetch_195 (fun _ h => h) (fun H locs hP hD hS => ?_)
              refine lv_aload_n hx hb dX2_fetch_198 rfl (lv_at hl 1 rfl) ?_
              refine lv_dup hx hb dX2_fetch_199 rfl ?_
              refine m_get hx hb hts hi2 hown hK hP 18 (by decide) (List.mem_of_getElem? (i := 12) rfl) (v := .long (gL σ 10)) rfl dX2_fetch_200 (fun _ h => h) ?_
              refine lv_iload_n hx hb dX2_fetch_203 rfl (lv_at hl 4 rfl) ?_
              refine lv_i2l (v := pr.toInt64) hx hb dX2_fetch_204 rfl ?_
              refine lv_ladd hx hb dX2_fetch_205 ?_
              refine m_put hx hb hts hi2 hown hK hP hD hS 18 (by decide) (List.mem_of_getElem? (i := 12) rfl) (v := .long ((gL σ 10) + pr.toInt64)) (ty := .long) (uL (uI (uS (uI (uI σ 20 0) 20 0) 8 k (gI σ 1)) 7 ((gI σ 7) + 1)) 10 ((gL σ 10) + pr.toInt64)) (mF_18 bx ba cI cJ cZ _ _) rfl (by decide +kernel) rfl rfl dX2_fetch_206 (fun _ h => h) (fun H locs hP hD hS => ?_)
              refine lv_aload_n hx hb dX2_fetch_209 rfl (lv_at hl 1 rfl) ?_
              refine lv_dup hx hb dX2_fetch_210 rfl ?_
              refine m_get hx hb hts hi2 hown hK hP 20 (by decide) (List.mem_of_getElem? (i := 13) rfl) (v := .int (gI σ 12)) rfl dX2_fetch_211 (fun _ h => h) ?_
              refine lv_aload_n hx hb dX2_fetch_214 rfl (lv_at hl 1 rfl) ?_
              refine lv_iload_n hx hb dX2_fetch_215 rfl (lv_at hl 2 rfl) ?_
              refine x_calli (va_runV (As := [.int (nI k)]) (rest := [.int (gI σ 12), .ref bx]) ⟨hx, hb, hml, hown, hts⟩ (k_X2_over l D bx ba cI cJ cZ H.size (uL (uI (uS (uI (uI σ 20 0) 20 0) 8 k (gI σ 1)) 7 ((gI σ 7) + 1)) 10 ((gL σ 10) + pr.toInt64)) hk) (cwV 1 hts gX2_fetch_X2_over rfl rfl rfl (by decide +kernel) ⟨Nat.le_of_ble_eq_true rfl, Nat.le_of_ble_eq_true rfl⟩) (xPreV mE_ok hE hK hA hP hD hS (q0 := 0) (ci := 2) rfl rfl rfl) rfl rfl hl.1 rfl (lv_room (Nat.le_of_ble_eq_true rfl)) dX2_fetch_216 ⟨Nat.le_of_ble_eq_true rfl, Nat.le_of_ble_eq_true rfl⟩) hD hS hA (fun r u H locs hp hP hD hS => ?_)
              obtain ⟨rfl, hu9⟩ := hp
              rw [hu9] at hP hD
              refine x_ifeq (tgt := 226) hx hb dX2_fetch_219 (by decide) (fun c_10 => ?_) (fun c_10 => ?_)
              · refine lv_iconst (v := 0) hx hb dX2_fetch_226 (by decide) ?_
                refine lv_iadd hx hb dX2_fetch_227 ?_
                refine m_put hx hb hts hi2 hown hK hP hD hS 20 (by decide) (List.mem_of_getElem? (i := 13) rfl) (v := .int ((gI σ 12) + 0)) (ty := .int) (uI (uL (uI (uS (uI (uI σ 20 0) 20 0) 8 k (gI σ 1)) 7 ((gI σ 7) + 1)) 10 ((gL σ 10) + pr.toInt64)) 12 ((gI σ 12) + 0)) (mF_20 bx ba cI cJ cZ _ _) rfl (by decide +kernel) rfl rfl dX2_fetch_228 (fun _ h => h) (fun H locs hP hD hS => ?_)
                refine lv_aload_n hx hb dX2_fetch_231 rfl (lv_at hl 1 rfl) ?_
                refine m_get hx hb hts hi2 hown hK hP 5 (by decide) (List.mem_of_getElem? (i := 2) rfl) (v := .ref (ba 0)) rfl dX2_fetch_232 (fun _ h => h) ?_
                refine lv_iload_n hx hb dX2_fetch_235 rfl (lv_at hl 2 rfl) ?_
                refine lv_iconst (v := 0) hx hb dX2_fetch_236 (by decide) ?_
                refine m_st0 (v := false) hx hb hK hP hD hS hk dX2_fetch_237 (fun H locs hP hD hS => ?_)
                have eM : mMiss (uI (uI σ 20 0) 20 0) k pr = uB (uI (uL (uI (uS (uI (uI σ 20 0) 20 0) 8 k (gI σ 1)) 7 ((gI σ 7) + 1)) 10 ((gL σ 10) + pr.toInt64)) 12 (gI σ 12 + (if ovr (uL (uI (uS (uI (uI σ 20 0) 20 0) 8 k (gI σ 1)) 7 ((gI σ 7) + 1)) 10 ((gL σ 10) + pr.toInt64)) k then 1 else 0))) 1 k false := rfl
                rw [if_neg (show ¬ ovr (uL (uI (uS (uI (uI σ 20 0) 20 0) 8 k (gI σ 1)) 7 ((gI σ 7) + 1)) 10 ((gL σ 10) + pr.toInt64)) k = true by rw [c_10]; decide)] at eM
                rw [← eM] at hP hD
                refine lv_iload_n hx hb dX2_fetch_238 rfl (lv_at hl 3 rfl) ?_
                refine lv_aload_n hx hb dX2_fetch_239 rfl (lv_at hl 1 rfl) ?_
                refine m_get hx hb hts hi2 hown hK hP 0 (by decide) (List.mem_of_getElem? (i := 14) rfl) (v := .int (gI (mMiss (uI (uI σ 20 0) 20 0) k pr) 3)) rfl dX2_fetch_240 (fun _ h => h) ?_
                refine lv_icmp_gt (tgt := 267) hx hb dX2_fetch_243 (by decide) (fun c_11 => ?_) (fun c_11 => ?_)
                · refine lv_iconst (v := 2) hx hb dX2_fetch_267 (by decide) ?_
                  exact x_iret hx hb hr hlocks hK (mMiss (uI (uI σ 20 0) 20 0) k pr) hP hD hS ⟨fun h9 => absurd h9 (by first | decide | (rw [hT]; decide)), fun j hj e9 => by rw [← nI_inj32 hk hj e9]; exact ⟨fun h9 => absurd (hok.symm.trans h9) (by decide), fun _ => by simp [mFetch, hh, eL, c_11]⟩⟩ dX2_fetch_268
                · refine lv_iload_n hx hb dX2_fetch_246 rfl (lv_at hl 3 rfl) ?_
                  refine lv_aload_n hx hb dX2_fetch_247 rfl (lv_at hl 1 rfl) ?_
                  refine m_get hx hb hts hi2 hown hK hP 1 (by decide) (List.mem_of_getElem? (i := 15) rfl) (v := .int (gI (mMiss (uI (uI σ 20 0) 20 0) k pr) 4)) rfl dX2_fetch_248 (fun _ h => h) ?_
                  refine x_icmp_le (tgt := 259) hx hb dX2_fetch_251 (by decide) (fun c_12 => ?_) (fun c_12 => ?_)
                  · refine lv_aload_n hx hb dX2_fetch_259 rfl (lv_at hl 1 rfl) ?_
                    refine lv_iload_n hx hb dX2_fetch_260 rfl (lv_at hl 3 rfl) ?_
                    refine x_calli (va_runV (As := [.int sz9]) (rest := []) ⟨hx, hb, hml, hown, hts⟩ (k_X2_makesRoom l D bx ba cI cJ cZ H.size (mMiss (uI (uI σ 20 0) 20 0) k pr) sz9 N τ (h k hk rfl)) (cwV 1 hts gX2_fetch_X2_makesRoom rfl rfl rfl (by decide +kernel) ⟨Nat.le_of_ble_eq_true rfl, Nat.le_of_ble_eq_true rfl⟩) (xPreV mE_ok hE hK hA hP hD hS (q0 := 0) (ci := 2) rfl rfl rfl) rfl rfl hl.1 rfl (lv_room (Nat.le_of_ble_eq_true rfl)) dX2_fetch_261 ⟨Nat.le_of_ble_eq_true rfl, Nat.le_of_ble_eq_true rfl⟩) hD hS hA (fun r u H locs hp hP hD hS => ?_)
                    obtain ⟨rfl, hu9⟩ := hp
                    rw [hu9] at hP hD
                    refine x_ifne (tgt := 269) hx hb dX2_fetch_264 (by decide) (fun c_13 => ?_) (fun c_13 => ?_)
                    · have hr9 : ¬ gI (mRoom0 (mMiss (uI (uI σ 20 0) 20 0) k pr) sz9) 3 < mPin (mRoom0 (mMiss (uI (uI σ 20 0) 20 0) k pr) sz9) true + sz9 := by simpa using c_13
                      rw [if_neg hr9] at hP hD
                      refine lv_aload_n hx hb dX2_fetch_269 rfl (lv_at hl 1 rfl) ?_
                      refine m_get hx hb hts hi2 hown hK hP 5 (by decide) (List.mem_of_getElem? (i := 2) rfl) (v := .ref (ba 0)) rfl dX2_fetch_270 (fun _ h => h) ?_
                      refine lv_iload_n hx hb dX2_fetch_273 rfl (lv_at hl 2 rfl) ?_
                      refine lv_iconst (v := 1) hx hb dX2_fetch_274 (by decide) ?_
                      refine m_st0 (v := true) hx hb hK hP hD hS hk dX2_fetch_275 (fun H locs hP hD hS => ?_)
                      refine lv_aload_n hx hb dX2_fetch_276 rfl (lv_at hl 1 rfl) ?_
                      refine m_get hx hb hts hi2 hown hK hP 6 (by decide) (List.mem_of_getElem? (i := 16) rfl) (v := .ref (ba 1)) rfl dX2_fetch_277 (fun _ h => h) ?_
                      refine lv_iload_n hx hb dX2_fetch_280 rfl (lv_at hl 2 rfl) ?_
                      refine lv_iconst (v := 0) hx hb dX2_fetch_281 (by decide) ?_
                      refine m_st1 (v := false) hx hb hK hP hD hS hk dX2_fetch_282 (fun H locs hP hD hS => ?_)
                      refine lv_aload_n hx hb dX2_fetch_283 rfl (lv_at hl 1 rfl) ?_
                      refine m_get hx hb hts hi2 hown hK hP 7 (by decide) (List.mem_of_getElem? (i := 3) rfl) (v := .ref (ba 2)) rfl dX2_fetch_284 (fun _ h => h) ?_
                      refine lv_iload_n hx hb dX2_fetch_287 rfl (lv_at hl 2 rfl) ?_
                      refine lv_iload_n hx hb dX2_fetch_288 rfl (lv_at hl 3 rfl) ?_
                      refine m_st2 (v := sz9) hx hb hK hP hD hS hk dX2_fetch_289 (fun H locs hP hD hS => ?_)
                      refine lv_aload_n hx hb dX2_fetch_290 rfl (lv_at hl 1 rfl) ?_
                      refine m_get hx hb hts hi2 hown hK hP 8 (by decide) (List.mem_of_getElem? (i := 5) rfl) (v := .ref (ba 3)) rfl dX2_fetch_291 (fun _ h => h) ?_
                      refine lv_iload_n hx hb dX2_fetch_294 rfl (lv_at hl 2 rfl) ?_
                      refine lv_iload_n hx hb dX2_fetch_295 rfl (lv_at hl 4 rfl) ?_
                      refine m_st3 (v := pr) hx hb hK hP hD hS hk dX2_fetch_296 (fun H locs hP hD hS => ?_)
                      refine lv_aload_n hx hb dX2_fetch_297 rfl (lv_at hl 1 rfl) ?_
                      refine m_get hx hb hts hi2 hown hK hP 9 (by decide) (List.mem_of_getElem? (i := 4) rfl) (v := .ref (ba 4)) rfl dX2_fetch_298 (fun _ h => h) ?_
                      refine lv_iload_n hx hb dX2_fetch_301 rfl (lv_at hl 2 rfl) ?_
                      refine lv_iconst (v := 1) hx hb dX2_fetch_302 (by decide) ?_
                      refine m_st4 (v := 1) hx hb hK hP hD hS hk dX2_fetch_303 (fun H locs hP hD hS => ?_)
                      refine lv_aload_n hx hb dX2_fetch_304 rfl (lv_at hl 1 rfl) ?_
                      refine m_get hx hb hts hi2 hown hK hP 11 (by decide) (List.mem_of_getElem? (i := 17) rfl) (v := .ref (ba 6)) rfl dX2_fetch_305 (fun _ h => h) ?_
                      refine lv_iload_n hx hb dX2_fetch_308 rfl (lv_at hl 2 rfl) ?_
                      refine lv_aload_n hx hb dX2_fetch_309 rfl (lv_at hl 1 rfl) ?_
                      refine m_get hx hb hts hi2 hown hK hP 2 (by decide) (List.mem_of_getElem? (i := 10) rfl) (v := .int (gI (τ N) 1)) rfl dX2_fetch_310 (fun _ h => h) ?_
                      refine lv_iload hx hb dX2_fetch_313 (lv_at hl 5 rfl) ?_
                      refine lv_iadd hx hb dX2_fetch_315 ?_
                      refine m_st6 (v := ((gI (τ N) 1) + lf)) hx hb hK hP hD hS hk dX2_fetch_316 (fun H locs hP hD hS => ?_)
                      refine lv_aload_n hx hb dX2_fetch_317 rfl (lv_at hl 1 rfl) ?_
                      refine lv_iload_n hx hb dX2_fetch_318 rfl (lv_at hl 2 rfl) ?_
                      refine x_callv (va_runV (As := [.int (nI k)]) (rest := []) ⟨hx, hb, hml, hown, hts⟩ (k_X2_setWorth l D bx ba cI cJ cZ H.size (uS (uS (uS (uS (uB (uB (τ N) 1 k true) 2 k false) 3 k sz9) 9 k pr) 4 k 1) 5 k ((gI (τ N) 1) + lf)) hk (by have h9 := hz9; simp [gS, uS, uB, va_up, h9])) (cwV 1 hts gX2_fetch_X2_setWorth rfl rfl rfl (by decide +kernel) ⟨Nat.le_of_ble_eq_true rfl, Nat.le_of_ble_eq_true rfl⟩) (xPreV mE_ok hE hK hA hP hD hS (q0 := 0) (ci := 2) rfl rfl rfl) rfl rfl hl.1 rfl (lv_room (Nat.le_of_ble_eq_true rfl)) dX2_fetch_319 ⟨Nat.le_of_ble_eq_true rfl, Nat.le_of_ble_eq_true rfl⟩) hD hS hA (fun u H locs hp hP hD hS => ?_)
                      rw [hp] at hP hD
                      refine lv_iconst (v := 1) hx hb dX2_fetch_322 (by decide) ?_
                      exact x_iret hx hb hr hlocks hK (mSetW (uS (uS (uS (uS (uB (uB (τ N) 1 k true) 2 k false) 3 k sz9) 9 k pr) 4 k 1) 5 k ((gI (τ N) 1) + lf)) k) hP hD hS ⟨fun h9 => absurd h9 (by first | decide | (rw [hT]; decide)), fun j hj e9 => by rw [← nI_inj32 hk hj e9]; exact ⟨fun h9 => absurd (hok.symm.trans h9) (by decide), fun _ => by have e1 : mFetch (uI (uI σ 20 0) 20 0) k sz9 pr lf (τ N) = (1, mFill (τ N) k sz9 pr lf) := (by simp [mFetch, hh, eL, hr9, c_11, c_12]); rw [e1]; exact ⟨rfl, rfl⟩⟩⟩ dX2_fetch_323
                    · refine lv_iconst (v := 2) hx hb dX2_fetch_267 (by decide) ?_
                      have hr9 : gI (mRoom0 (mMiss (uI (uI σ 20 0) 20 0) k pr) sz9) 3 < mPin (mRoom0 (mMiss (uI (uI σ 20 0) 20 0) k pr) sz9) true + sz9 := by simpa using c_13
                      rw [if_pos hr9] at hP hD
                      exact x_iret hx hb hr hlocks hK (mRoom0 (mMiss (uI (uI σ 20 0) 20 0) k pr) sz9) hP hD hS ⟨fun h9 => absurd h9 (by first | decide | (rw [hT]; decide)), fun j hj e9 => by rw [← nI_inj32 hk hj e9]; exact ⟨fun h9 => absurd (hok.symm.trans h9) (by decide), fun _ => by simp [mFetch, hh, eL, hr9, c_11, c_12]⟩⟩ dX2_fetch_268
                  · refine lv_iload hx hb dX2_fetch_254 (lv_at hl 0 rfl) ?_
                    refine lv_if_eq (tgt := 267) hx hb dX2_fetch_256 (by decide) (fun _ => ?_) (fun c_14 => absurd (by decide) c_14)
                    refine lv_iconst (v := 2) hx hb dX2_fetch_267 (by decide) ?_
                    exact x_iret hx hb hr hlocks hK (mMiss (uI (uI σ 20 0) 20 0) k pr) hP hD hS ⟨fun h9 => absurd h9 (by first | decide | (rw [hT]; decide)), fun j hj e9 => by rw [← nI_inj32 hk hj e9]; exact ⟨fun h9 => absurd (hok.symm.trans h9) (by decide), fun _ => by simp [mFetch, hh, eL, c_11, c_12]⟩⟩ dX2_fetch_268
              · refine lv_iconst (v := 1) hx hb dX2_fetch_222 (by decide) ?_
                refine lv_goto (tgt := 227) hx hb dX2_fetch_223 (by decide) ?_
                refine lv_iadd hx hb dX2_fetch_227 ?_
                refine m_put hx hb hts hi2 hown hK hP hD hS 20 (by decide) (List.mem_of_getElem? (i := 13) rfl) (v := .int ((gI σ 12) + 1)) (ty := .int) (uI (uL (uI (uS (uI (uI σ 20 0) 20 0) 8 k (gI σ 1)) 7 ((gI σ 7) + 1)) 10 ((gL σ 10) + pr.toInt64)) 12 ((gI σ 12) + 1)) (mF_20 bx ba cI cJ cZ _ _) rfl (by decide +kernel) rfl rfl dX2_fetch_228 (fun _ h => h) (fun H locs hP hD hS => ?_)
                refine lv_aload_n hx hb dX2_fetch_231 rfl (lv_at hl 1 rfl) ?_
                refine m_get hx hb hts hi2 hown hK hP 5 (by decide) (List.mem_of_getElem? (i := 2) rfl) (v := .ref (ba 0)) rfl dX2_fetch_232 (fun _ h => h) ?_
                refine lv_iload_n hx hb dX2_fetch_235 rfl (lv_at hl 2 rfl) ?_
                refine lv_iconst (v := 0) hx hb dX2_fetch_236 (by decide) ?_
                refine m_st0 (v := false) hx hb hK hP hD hS hk dX2_fetch_237 (fun H locs hP hD hS => ?_)
                have eM : mMiss (uI (uI σ 20 0) 20 0) k pr = uB (uI (uL (uI (uS (uI (uI σ 20 0) 20 0) 8 k (gI σ 1)) 7 ((gI σ 7) + 1)) 10 ((gL σ 10) + pr.toInt64)) 12 (gI σ 12 + (if ovr (uL (uI (uS (uI (uI σ 20 0) 20 0) 8 k (gI σ 1)) 7 ((gI σ 7) + 1)) 10 ((gL σ 10) + pr.toInt64)) k then 1 else 0))) 1 k false := rfl
                rw [if_pos c_10] at eM
                rw [← eM] at hP hD
                refine lv_iload_n hx hb dX2_fetch_238 rfl (lv_at hl 3 rfl) ?_
                refine lv_aload_n hx hb dX2_fetch_239 rfl (lv_at hl 1 rfl) ?_
                refine m_get hx hb hts hi2 hown hK hP 0 (by decide) (List.mem_of_getElem? (i := 14) rfl) (v := .int (gI (mMiss (uI (uI σ 20 0) 20 0) k pr) 3)) rfl dX2_fetch_240 (fun _ h => h) ?_
                refine lv_icmp_gt (tgt := 267) hx hb dX2_fetch_243 (by decide) (fun c_15 => ?_) (fun c_15 => ?_)
                · refine lv_iconst (v := 2) hx hb dX2_fetch_267 (by decide) ?_
                  exact x_iret hx hb hr hlocks hK (mMiss (uI (uI σ 20 0) 20 0) k pr) hP hD hS ⟨fun h9 => absurd h9 (by first | decide | (rw [hT]; decide)), fun j hj e9 => by rw [← nI_inj32 hk hj e9]; exact ⟨fun h9 => absurd (hok.symm.trans h9) (by decide), fun _ => by simp [mFetch, hh, eL, c_15]⟩⟩ dX2_fetch_268
                · refine lv_iload_n hx hb dX2_fetch_246 rfl (lv_at hl 3 rfl) ?_
                  refine lv_aload_n hx hb dX2_fetch_247 rfl (lv_at hl 1 rfl) ?_
                  refine m_get hx hb hts hi2 hown hK hP 1 (by decide) (List.mem_of_getElem? (i := 15) rfl) (v := .int (gI (mMiss (uI (uI σ 20 0) 20 0) k pr) 4)) rfl dX2_fetch_248 (fun _ h => h) ?_
                  refine x_icmp_le (tgt := 259) hx hb dX2_fetch_251 (by decide) (fun c_16 => ?_) (fun c_16 => ?_)
                  · refine lv_aload_n hx hb dX2_fetch_259 rfl (lv_at hl 1 rfl) ?_
                    refine lv_iload_n hx hb dX2_fetch_260 rfl (lv_at hl 3 rfl) ?_
                    refine x_calli (va_runV (As := [.int sz9]) (rest := []) ⟨hx, hb, hml, hown, hts⟩ (k_X2_makesRoom l D bx ba cI cJ cZ H.size (mMiss (uI (uI σ 20 0) 20 0) k pr) sz9 N τ (h k hk rfl)) (cwV 1 hts gX2_fetch_X2_makesRoom rfl rfl rfl (by decide +kernel) ⟨Nat.le_of_ble_eq_true rfl, Nat.le_of_ble_eq_true rfl⟩) (xPreV mE_ok hE hK hA hP hD hS (q0 := 0) (ci := 2) rfl rfl rfl) rfl rfl hl.1 rfl (lv_room (Nat.le_of_ble_eq_true rfl)) dX2_fetch_261 ⟨Nat.le_of_ble_eq_true rfl, Nat.le_of_ble_eq_true rfl⟩) hD hS hA (fun r u H locs hp hP hD hS => ?_)
                    obtain ⟨rfl, hu9⟩ := hp
                    rw [hu9] at hP hD
                    refine x_ifne (tgt := 269) hx hb dX2_fetch_264 (by decide) (fun c_17 => ?_) (fun c_17 => ?_)
                    · have hr9 : ¬ gI (mRoom0 (mMiss (uI (uI σ 20 0) 20 0) k pr) sz9) 3 < mPin (mRoom0 (mMiss (uI (uI σ 20 0) 20 0) k pr) sz9) true + sz9 := by simpa using c_17
                      rw [if_neg hr9] at hP hD
                      refine lv_aload_n hx hb dX2_fetch_269 rfl (lv_at hl 1 rfl) ?_
                      refine m_get hx hb hts hi2 hown hK hP 5 (by decide) (List.mem_of_getElem? (i := 2) rfl) (v := .ref (ba 0)) rfl dX2_fetch_270 (fun _ h => h) ?_
                      refine lv_iload_n hx hb dX2_fetch_273 rfl (lv_at hl 2 rfl) ?_
                      refine lv_iconst (v := 1) hx hb dX2_fetch_274 (by decide) ?_
                      refine m_st0 (v := true) hx hb hK hP hD hS hk dX2_fetch_275 (fun H locs hP hD hS => ?_)
                      refine lv_aload_n hx hb dX2_fetch_276 rfl (lv_at hl 1 rfl) ?_
                      refine m_get hx hb hts hi2 hown hK hP 6 (by decide) (List.mem_of_getElem? (i := 16) rfl) (v := .ref (ba 1)) rfl dX2_fetch_277 (fun _ h => h) ?_
                      refine lv_iload_n hx hb dX2_fetch_280 rfl (lv_at hl 2 rfl) ?_
                      refine lv_iconst (v := 0) hx hb dX2_fetch_281 (by decide) ?_
                      refine m_st1 (v := false) hx hb hK hP hD hS hk dX2_fetch_282 (fun H locs hP hD hS => ?_)
                      refine lv_aload_n hx hb dX2_fetch_283 rfl (lv_at hl 1 rfl) ?_
                      refine m_get hx hb hts hi2 hown hK hP 7 (by decide) (List.mem_of_getElem? (i := 3) rfl) (v := .ref (ba 2)) rfl dX2_fetch_284 (fun _ h => h) ?_
                      refine lv_iload_n hx hb dX2_fetch_287 rfl (lv_at hl 2 rfl) ?_
                      refine lv_iload_n hx hb dX2_fetch_288 rfl (lv_at hl 3 rfl) ?_
                      refine m_st2 (v := sz9) hx hb hK hP hD hS hk dX2_fetch_289 (fun H locs hP hD hS => ?_)
                      refine lv_aload_n hx hb dX2_fetch_290 rfl (lv_at hl 1 rfl) ?_
                      refine m_get hx hb hts hi2 hown hK hP 8 (by decide) (List.mem_of_getElem? (i := 5) rfl) (v := .ref (ba 3)) rfl dX2_fetch_291 (fun _ h => h) ?_
                      refine lv_iload_n hx hb dX2_fetch_294 rfl (lv_at hl 2 rfl) ?_
                      refine lv_iload_n hx hb dX2_fetch_295 rfl (lv_at hl 4 rfl) ?_
                      refine m_st3 (v := pr) hx hb hK hP hD hS hk dX2_fetch_296 (fun H locs hP hD hS => ?_)
                      refine lv_aload_n hx hb dX2_fetch_297 rfl (lv_at hl 1 rfl) ?_
                      refine m_get hx hb hts hi2 hown hK hP 9 (by decide) (List.mem_of_getElem? (i := 4) rfl) (v := .ref (ba 4)) rfl dX2_fetch_298 (fun _ h => h) ?_
                      refine lv_iload_n hx hb dX2_fetch_301 rfl (lv_at hl 2 rfl) ?_
                      refine lv_iconst (v := 1) hx hb dX2_fetch_302 (by decide) ?_
                      refine m_st4 (v := 1) hx hb hK hP hD hS hk dX2_fetch_303 (fun H locs hP hD hS => ?_)
                      refine lv_aload_n hx hb dX2_fetch_304 rfl (lv_at hl 1 rfl) ?_
                      refine m_get hx hb hts hi2 hown hK hP 11 (by decide) (List.mem_of_getElem? (i := 17) rfl) (v := .ref (ba 6)) rfl dX2_fetch_305 (fun _ h => h) ?_
                      refine lv_iload_n hx hb dX2_fetch_308 rfl (lv_at hl 2 rfl) ?_
                      refine lv_aload_n hx hb dX2_fetch_309 rfl (lv_at hl 1 rfl) ?_
                      refine m_get hx hb hts hi2 hown hK hP 2 (by decide) (List.mem_of_getElem? (i := 10) rfl) (v := .int (gI (τ N) 1)) rfl dX2_fetch_310 (fun _ h => h) ?_
                      refine lv_iload hx hb dX2_fetch_313 (lv_at hl 5 rfl) ?_
                      refine lv_iadd hx hb dX2_fetch_315 ?_
                      refine m_st6 (v := ((gI (τ N) 1) + lf)) hx hb hK hP hD hS hk dX2_fetch_316 (fun H locs hP hD hS => ?_)
                      refine lv_aload_n hx hb dX2_fetch_317 rfl (lv_at hl 1 rfl) ?_
                      refine lv_iload_n hx hb dX2_fetch_318 rfl (lv_at hl 2 rfl) ?_
                      refine x_callv (va_runV (As := [.int (nI k)]) (rest := []) ⟨hx, hb, hml, hown, hts⟩ (k_X2_setWorth l D bx ba cI cJ cZ H.size (uS (uS (uS (uS (uB (uB (τ N) 1 k true) 2 k false) 3 k sz9) 9 k pr) 4 k 1) 5 k ((gI (τ N) 1) + lf)) hk (by have h9 := hz9; simp [gS, uS, uB, va_up, h9])) (cwV 1 hts gX2_fetch_X2_setWorth rfl rfl rfl (by decide +kernel) ⟨Nat.le_of_ble_eq_true rfl, Nat.le_of_ble_eq_true rfl⟩) (xPreV mE_ok hE hK hA hP hD hS (q0 := 0) (ci := 2) rfl rfl rfl) rfl rfl hl.1 rfl (lv_room (Nat.le_of_ble_eq_true rfl)) dX2_fetch_319 ⟨Nat.le_of_ble_eq_true rfl, Nat.le_of_ble_eq_true rfl⟩) hD hS hA (fun u H locs hp hP hD hS => ?_)
                      rw [hp] at hP hD
                      refine lv_iconst (v := 1) hx hb dX2_fetch_322 (by decide) ?_
                      exact x_iret hx hb hr hlocks hK (mSetW (uS (uS (uS (uS (uB (uB (τ N) 1 k true) 2 k false) 3 k sz9) 9 k pr) 4 k 1) 5 k ((gI (τ N) 1) + lf)) k) hP hD hS ⟨fun h9 => absurd h9 (by first | decide | (rw [hT]; decide)), fun j hj e9 => by rw [← nI_inj32 hk hj e9]; exact ⟨fun h9 => absurd (hok.symm.trans h9) (by decide), fun _ => by have e1 : mFetch (uI (uI σ 20 0) 20 0) k sz9 pr lf (τ N) = (1, mFill (τ N) k sz9 pr lf) := (by simp [mFetch, hh, eL, hr9, c_15, c_16]); rw [e1]; exact ⟨rfl, rfl⟩⟩⟩ dX2_fetch_323
                    · refine lv_iconst (v := 2) hx hb dX2_fetch_267 (by decide) ?_
                      have hr9 : gI (mRoom0 (mMiss (uI (uI σ 20 0) 20 0) k pr) sz9) 3 < mPin (mRoom0 (mMiss (uI (uI σ 20 0) 20 0) k pr) sz9) true + sz9 := by simpa using c_17
                      rw [if_pos hr9] at hP hD
                      exact x_iret hx hb hr hlocks hK (mRoom0 (mMiss (uI (uI σ 20 0) 20 0) k pr) sz9) hP hD hS ⟨fun h9 => absurd h9 (by first | decide | (rw [hT]; decide)), fun j hj e9 => by rw [← nI_inj32 hk hj e9]; exact ⟨fun h9 => absurd (hok.symm.trans h9) (by decide), fun _ => by simp [mFetch, hh, eL, hr9, c_15, c_16]⟩⟩ dX2_fetch_268
                  · refine lv_iload hx hb dX2_fetch_254 (lv_at hl 0 rfl) ?_
                    refine lv_if_eq (tgt := 267) hx hb dX2_fetch_256 (by decide) (fun _ => ?_) (fun c_18 => absurd (by decide) c_18)
                    refine lv_iconst (v := 2) hx hb dX2_fetch_267 (by decide) ?_
                    exact x_iret hx hb hr hlocks hK (mMiss (uI (uI σ 20 0) 20 0) k pr) hP hD hS ⟨fun h9 => absurd h9 (by first | decide | (rw [hT]; decide)), fun j hj e9 => by rw [← nI_inj32 hk hj e9]; exact ⟨fun h9 => absurd (hok.symm.trans h9) (by decide), fun _ => by simp [mFetch, hh, eL, c_15, c_16]⟩⟩ dX2_fetch_268
            · refine lv_aload_n hx hb dX2_fetch_155 rfl (lv_at hl 0 rfl) ?_
              refine m_get hx hb hts hi2 hown hK hP 2 (by decide) (List.mem_of_getElem? (i := 10) rfl) (v := .int (gI σ 1)) rfl dX2_fetch_156 (fun _ h => h) ?_
              refine lv_aload_n hx hb dX2_fetch_159 rfl (lv_at hl 0 rfl) ?_
              refine m_get hx hb hts hi2 hown hK hP 13 (by decide) (List.mem_of_getElem? (i := 9) rfl) (v := .ref (ba 8)) rfl dX2_fetch_160 (fun _ h => h) ?_
              refine lv_iload_n hx hb dX2_fetch_163 rfl (lv_at hl 1 rfl) ?_
              refine m_ld8 hx hb hK hP hk dX2_fetch_164 ?_
              refine W.eq (g2 := F0 m 165 ls [.int (gS σ 8 k), .int (gI σ 1)]) rfl ?_
              refine lv_isub hx hb dX2_fetch_165 ?_
              refine lv_bipush (v := 50) hx hb dX2_fetch_166 (by decide) ?_
              refine lv_icmp_gt (tgt := 175) hx hb dX2_fetch_168 (by decide) (fun c_19 => ?_) (fun c_19 => ?_)
              · refine lv_iconst (v := 0) hx hb dX2_fetch_175 (by decide) ?_
                refine lv_istore (lv' := [(5, .int 0), (0, .ref bx), (1, .int (nI k)), (2, .int sz9), (3, .int pr), (4, .int lf)]) hx hb dX2_fetch_176 hl (by decide) rfl (fun ls hl => ?_)
                have eL : cLate (uI (uI σ 20 0) 20 0) k = false := by
                  show cLate σ k = _
                  simp [cLate, c_9, c_19]
                refine lv_aload_n hx hb dX2_fetch_178 rfl (lv_at hl 1 rfl) ?_
                refine m_get hx hb hts hi2 hown hK hP 13 (by decide) (List.mem_of_getElem? (i := 9) rfl) (v := .ref (ba 8)) rfl dX2_fetch_179 (fun _ h => h) ?_
                refine lv_iload_n hx hb dX2_fetch_182 rfl (lv_at hl 2 rfl) ?_
                refine lv_aload_n hx hb dX2_fetch_183 rfl (lv_at hl 1 rfl) ?_
                refine m_get hx hb hts hi2 hown hK hP 2 (by decide) (List.mem_of_getElem? (i := 10) rfl) (v := .int (gI σ 1)) rfl dX2_fetch_184 (fun _ h => h) ?_
                refine m_st8 (v := (gI σ 1)) hx hb hK hP hD hS hk dX2_fetch_187 (fun H locs hP hD hS => ?_)
                refine lv_aload_n hx hb dX2_fetch_188 rfl (lv_at hl 1 rfl) ?_
                refine lv_dup hx hb dX2_fetch_189 rfl ?_
                refine m_get hx hb hts hi2 hown hK hP 15 (by decide) (List.mem_of_getElem? (i := 11) rfl) (v := .int (gI σ 7)) rfl dX2_fetch_190 (fun _ h => h) ?_
                refine lv_iconst (v := 1) hx hb dX2_fetch_193 (by decide) ?_
                refine lv_iadd hx hb dX2_fetch_194 ?_
                refine m_put hx hb hts hi2 hown hK hP hD hS 15 (by decide) (List.mem_of_getElem? (i := 11) rfl) (v := .int ((gI σ 7) + 1)) (ty := .int) (uI (uS (uI (uI σ 20 0) 20 0) 8 k (gI σ 1)) 7 ((gI σ 7) + 1)) (mF_15 bx ba cI cJ cZ _ _) rfl (by decide +kernel) rfl rfl dX2_fetch_195 (fun _ h => h) (fun H locs hP hD hS => ?_)
                refine lv_aload_n hx hb dX2_fetch_198 rfl (lv_at hl 1 rfl) ?_
                refine lv_dup hx hb dX2_fetch_199 rfl ?_
                refine m_get hx hb hts hi2 hown hK hP 18 (by decide) (List.mem_of_getElem? (i := 12) rfl) (v := .long (gL σ 10)) rfl dX2_fetch_200 (fun _ h => h) ?_
                refine lv_iload_n hx hb dX2_fetch_203 rfl (lv_at hl 4 rfl) ?_
                refine lv_i2l (v := pr.toInt64) hx hb dX2_fetch_204 rfl ?_
                refine lv_ladd hx hb dX2_fetch_205 ?_
                refine m_put hx hb hts hi2 hown hK hP hD hS 18 (by decide) (List.mem_of_getElem? (i := 12) rfl) (v := .long ((gL σ 10) + pr.toInt64)) (ty := .long) (uL (uI (uS (uI (uI σ 20 0) 20 0) 8 k (gI σ 1)) 7 ((gI σ 7) + 1)) 10 ((gL σ 10) + pr.toInt64)) (mF_18 bx ba cI cJ cZ _ _) rfl (by decide +kernel) rfl rfl dX2_fetch_206 (fun _ h => h) (fun H locs hP hD hS => ?_)
                refine lv_aload_n hx hb dX2_fetch_209 rfl (lv_at hl 1 rfl) ?_
                refine lv_dup hx hb dX2_fetch_210 rfl ?_
                refine m_get hx hb hts hi2 hown hK hP 20 (by decide) (List.mem_of_getElem? (i := 13) rfl) (v := .int (gI σ 12)) rfl dX2_fetch_211 (fun _ h => h) ?_
                refine lv_aload_n hx hb dX2_fetch_214 rfl (lv_at hl 1 rfl) ?_
                refine lv_iload_n hx hb dX2_fetch_215 rfl (lv_at hl 2 rfl) ?_
                refine x_calli (va_runV (As := [.int (nI k)]) (rest := [.int (gI σ 12), .ref bx]) ⟨hx, hb, hml, hown, hts⟩ (k_X2_over l D bx ba cI cJ cZ H.size (uL (uI (uS (uI (uI σ 20 0) 20 0) 8 k (gI σ 1)) 7 ((gI σ 7) + 1)) 10 ((gL σ 10) + pr.toInt64)) hk) (cwV 1 hts gX2_fetch_X2_over rfl rfl rfl (by decide +kernel) ⟨Nat.le_of_ble_eq_true rfl, Nat.le_of_ble_eq_true rfl⟩) (xPreV mE_ok hE hK hA hP hD hS (q0 := 0) (ci := 2) rfl rfl rfl) rfl rfl hl.1 rfl (lv_room (Nat.le_of_ble_eq_true rfl)) dX2_fetch_216 ⟨Nat.le_of_ble_eq_true rfl, Nat.le_of_ble_eq_true rfl⟩) hD hS hA (fun r u H locs hp hP hD hS => ?_)
                obtain ⟨rfl, hu9⟩ := hp
                rw [hu9] at hP hD
                refine x_ifeq (tgt := 226) hx hb dX2_fetch_219 (by decide) (fun c_20 => ?_) (fun c_20 => ?_)
                · refine lv_iconst (v := 0) hx hb dX2_fetch_226 (by decide) ?_
                  refine lv_iadd hx hb dX2_fetch_227 ?_
                  refine m_put hx hb hts hi2 hown hK hP hD hS 20 (by decide) (List.mem_of_getElem? (i := 13) rfl) (v := .int ((gI σ 12) + 0)) (ty := .int) (uI (uL (uI (uS (uI (uI σ 20 0) 20 0) 8 k (gI σ 1)) 7 ((gI σ 7) + 1)) 10 ((gL σ 10) + pr.toInt64)) 12 ((gI σ 12) + 0)) (mF_20 bx ba cI cJ cZ _ _) rfl (by decide +kernel) rfl rfl dX2_fetch_228 (fun _ h => h) (fun H locs hP hD hS => ?_)
                  refine lv_aload_n hx hb dX2_fetch_231 rfl (lv_at hl 1 rfl) ?_
                  refine m_get hx hb hts hi2 hown hK hP 5 (by decide) (List.mem_of_getElem? (i := 2) rfl) (v := .ref (ba 0)) rfl dX2_fetch_232 (fun _ h => h) ?_
                  refine lv_iload_n hx hb dX2_fetch_235 rfl (lv_at hl 2 rfl) ?_
                  refine lv_iconst (v := 0) hx hb dX2_fetch_236 (by decide) ?_
                  refine m_st0 (v := false) hx hb hK hP hD hS hk dX2_fetch_237 (fun H locs hP hD hS => ?_)
                  have eM : mMiss (uI (uI σ 20 0) 20 0) k pr = uB (uI (uL (uI (uS (uI (uI σ 20 0) 20 0) 8 k (gI σ 1)) 7 ((gI σ 7) + 1)) 10 ((gL σ 10) + pr.toInt64)) 12 (gI σ 12 + (if ovr (uL (uI (uS (uI (uI σ 20 0) 20 0) 8 k (gI σ 1)) 7 ((gI σ 7) + 1)) 10 ((gL σ 10) + pr.toInt64)) k then 1 else 0))) 1 k false := rfl
                  rw [if_neg (show ¬ ovr (uL (uI (uS (uI (uI σ 20 0) 20 0) 8 k (gI σ 1)) 7 ((gI σ 7) + 1)) 10 ((gL σ 10) + pr.toInt64)) k = true by rw [c_20]; decide)] at eM
                  rw [← eM] at hP hD
                  refine lv_iload_n hx hb dX2_fetch_238 rfl (lv_at hl 3 rfl) ?_
                  refine lv_aload_n hx hb dX2_fetch_239 rfl (lv_at hl 1 rfl) ?_
                  refine m_get hx hb hts hi2 hown hK hP 0 (by decide) (List.mem_of_getElem? (i := 14) rfl) (v := .int (gI (mMiss (uI (uI σ 20 0) 20 0) k pr) 3)) rfl dX2_fetch_240 (fun _ h => h) ?_
                  refine lv_icmp_gt (tgt := 267) hx hb dX2_fetch_243 (by decide) (fun c_21 => ?_) (fun c_21 => ?_)
                  · refine lv_iconst (v := 2) hx hb dX2_fetch_267 (by decide) ?_
                    exact x_iret hx hb hr hlocks hK (mMiss (uI (uI σ 20 0) 20 0) k pr) hP hD hS ⟨fun h9 => absurd h9 (by first | decide | (rw [hT]; decide)), fun j hj e9 => by rw [← nI_inj32 hk hj e9]; exact ⟨fun h9 => absurd (hok.symm.trans h9) (by decide), fun _ => by simp [mFetch, hh, eL, c_21]⟩⟩ dX2_fetch_268
                  · refine lv_iload_n hx hb dX2_fetch_246 rfl (lv_at hl 3 rfl) ?_
                    refine lv_aload_n hx hb dX2_fetch_247 rfl (lv_at hl 1 rfl) ?_
                    refine m_get hx hb hts hi2 hown hK hP 1 (by decide) (List.mem_of_getElem? (i := 15) rfl) (v := .int (gI (mMiss (uI (uI σ 20 0) 20 0) k pr) 4)) rfl dX2_fetch_248 (fun _ h => h) ?_
                    refine x_icmp_le (tgt := 259) hx hb dX2_fetch_251 (by decide) (fun c_22 => ?_) (fun c_22 => ?_)
                    · refine lv_aload_n hx hb dX2_fetch_259 rfl (lv_at hl 1 rfl) ?_
                      refine lv_iload_n hx hb dX2_fetch_260 rfl (lv_at hl 3 rfl) ?_
                      refine x_calli (va_runV (As := [.int sz9]) (rest := []) ⟨hx, hb, hml, hown, hts⟩ (k_X2_makesRoom l D bx ba cI cJ cZ H.size (mMiss (uI (uI σ 20 0) 20 0) k pr) sz9 N τ (h k hk rfl)) (cwV 1 hts gX2_fetch_X2_makesRoom rfl rfl rfl (by decide +kernel) ⟨Nat.le_of_ble_eq_true rfl, Nat.le_of_ble_eq_true rfl⟩) (xPreV mE_ok hE hK hA hP hD hS (q0 := 0) (ci := 2) rfl rfl rfl) rfl rfl hl.1 rfl (lv_room (Nat.le_of_ble_eq_true rfl)) dX2_fetch_261 ⟨Nat.le_of_ble_eq_true rfl, Nat.le_of_ble_eq_true rfl⟩) hD hS hA (fun r u H locs hp hP hD hS => ?_)
                      obtain ⟨rfl, hu9⟩ := hp
                      rw [hu9] at hP hD
                      refine x_ifne (tgt := 269) hx hb dX2_fetch_264 (by decide) (fun c_23 => ?_) (fun c_23 => ?_)
                      · have hr9 : ¬ gI (mRoom0 (mMiss (uI (uI σ 20 0) 20 0) k pr) sz9) 3 < mPin (mRoom0 (mMiss (uI (uI σ 20 0) 20 0) k pr) sz9) true + sz9 := by simpa using c_23
                        rw [if_neg hr9] at hP hD
                        refine lv_aload_n hx hb dX2_fetch_269 rfl (lv_at hl 1 rfl) ?_
                        refine m_get hx hb hts hi2 hown hK hP 5 (by decide) (List.mem_of_getElem? (i := 2) rfl) (v := .ref (ba 0)) rfl dX2_fetch_270 (fun _ h => h) ?_
                        refine lv_iload_n hx hb dX2_fetch_273 rfl (lv_at hl 2 rfl) ?_
                        refine lv_iconst (v := 1) hx hb dX2_fetch_274 (by decide) ?_
                        refine m_st0 (v := true) hx hb hK hP hD hS hk dX2_fetch_275 (fun H locs hP hD hS => ?_)
                        refine lv_aload_n hx hb dX2_fetch_276 rfl (lv_at hl 1 rfl) ?_
                        refine m_get hx hb hts hi2 hown hK hP 6 (by decide) (List.mem_of_getElem? (i := 16) rfl) (v := .ref (ba 1)) rfl dX2_fetch_277 (fun _ h => h) ?_
                        refine lv_iload_n hx hb dX2_fetch_280 rfl (lv_at hl 2 rfl) ?_
                        refine lv_iconst (v := 0) hx hb dX2_fetch_281 (by decide) ?_
                        refine m_st1 (v := false) hx hb hK hP hD hS hk dX2_fetch_282 (fun H locs hP hD hS => ?_)
                        refine lv_aload_n hx hb dX2_fetch_283 rfl (lv_at hl 1 rfl) ?_
                        refine m_get hx hb hts hi2 hown hK hP 7 (by decide) (List.mem_of_getElem? (i := 3) rfl) (v := .ref (ba 2)) rfl dX2_fetch_284 (fun _ h => h) ?_
                        refine lv_iload_n hx hb dX2_fetch_287 rfl (lv_at hl 2 rfl) ?_
                        refine lv_iload_n hx hb dX2_fetch_288 rfl (lv_at hl 3 rfl) ?_
                        refine m_st2 (v := sz9) hx hb hK hP hD hS hk dX2_fetch_289 (fun H locs hP hD hS => ?_)
                        refine lv_aload_n hx hb dX2_fetch_290 rfl (lv_at hl 1 rfl) ?_
                        refine m_get hx hb hts hi2 hown hK hP 8 (by decide) (List.mem_of_getElem? (i := 5) rfl) (v := .ref (ba 3)) rfl dX2_fetch_291 (fun _ h => h) ?_
                        refine lv_iload_n hx hb dX2_fetch_294 rfl (lv_at hl 2 rfl) ?_
                        refine lv_iload_n hx hb dX2_fetch_295 rfl (lv_at hl 4 rfl) ?_
                        refine m_st3 (v := pr) hx hb hK hP hD hS hk dX2_fetch_296 (fun H locs hP hD hS => ?_)
                        refine lv_aload_n hx hb dX2_fetch_297 rfl (lv_at hl 1 rfl) ?_
                        refine m_get hx hb hts hi2 hown hK hP 9 (by decide) (List.mem_of_getElem? (i := 4) rfl) (v := .ref (ba 4)) rfl dX2_fetch_298 (fun _ h => h) ?_
                        refine lv_iload_n hx hb dX2_fetch_301 rfl (lv_at hl 2 rfl) ?_
                        refine lv_iconst (v := 1) hx hb dX2_fetch_302 (by decide) ?_
                        refine m_st4 (v := 1) hx hb hK hP hD hS hk dX2_fetch_303 (fun H locs hP hD hS => ?_)
                        refine lv_aload_n hx hb dX2_fetch_304 rfl (lv_at hl 1 rfl) ?_
                        refine m_get hx hb hts hi2 hown hK hP 11 (by decide) (List.mem_of_getElem? (i := 17) rfl) (v := .ref (ba 6)) rfl dX2_fetch_305 (fun _ h => h) ?_
                        refine lv_iload_n hx hb dX2_fetch_308 rfl (lv_at hl 2 rfl) ?_
                        refine lv_aload_n hx hb dX2_fetch_309 rfl (lv_at hl 1 rfl) ?_
                        refine m_get hx hb hts hi2 hown hK hP 2 (by decide) (List.mem_of_getElem? (i := 10) rfl) (v := .int (gI (τ N) 1)) rfl dX2_fetch_310 (fun _ h => h) ?_
                        refine lv_iload hx hb dX2_fetch_313 (lv_at hl 5 rfl) ?_
                        refine lv_iadd hx hb dX2_fetch_315 ?_
                        refine m_st6 (v := ((gI (τ N) 1) + lf)) hx hb hK hP hD hS hk dX2_fetch_316 (fun H locs hP hD hS => ?_)
                        refine lv_aload_n hx hb dX2_fetch_317 rfl (lv_at hl 1 rfl) ?_
                        refine lv_iload_n hx hb dX2_fetch_318 rfl (lv_at hl 2 rfl) ?_
                        refine x_callv (va_runV (As := [.int (nI k)]) (rest := []) ⟨hx, hb, hml, hown, hts⟩ (k_X2_setWorth l D bx ba cI cJ cZ H.size (uS (uS (uS (uS (uB (uB (τ N) 1 k true) 2 k false) 3 k sz9) 9 k pr) 4 k 1) 5 k ((gI (τ N) 1) + lf)) hk (by have h9 := hz9; simp [gS, uS, uB, va_up, h9])) (cwV 1 hts gX2_fetch_X2_setWorth rfl rfl rfl (by decide +kernel) ⟨Nat.le_of_ble_eq_true rfl, Nat.le_of_ble_eq_true rfl⟩) (xPreV mE_ok hE hK hA hP hD hS (q0 := 0) (ci := 2) rfl rfl rfl) rfl rfl hl.1 rfl (lv_room (Nat.le_of_ble_eq_true rfl)) dX2_fetch_319 ⟨Nat.le_of_ble_eq_true rfl, Nat.le_of_ble_eq_true rfl⟩) hD hS hA (fun u H locs hp hP hD hS => ?_)
                        rw [hp] at hP hD
                        refine lv_iconst (v := 1) hx hb dX2_fetch_322 (by decide) ?_
                        exact x_iret hx hb hr hlocks hK (mSetW (uS (uS (uS (uS (uB (uB (τ N) 1 k true) 2 k false) 3 k sz9) 9 k pr) 4 k 1) 5 k ((gI (τ N) 1) + lf)) k) hP hD hS ⟨fun h9 => absurd h9 (by first | decide | (rw [hT]; decide)), fun j hj e9 => by rw [← nI_inj32 hk hj e9]; exact ⟨fun h9 => absurd (hok.symm.trans h9) (by decide), fun _ => by have e1 : mFetch (uI (uI σ 20 0) 20 0) k sz9 pr lf (τ N) = (1, mFill (τ N) k sz9 pr lf) := (by simp [mFetch, hh, eL, hr9, c_21, c_22]); rw [e1]; exact ⟨rfl, rfl⟩⟩⟩ dX2_fetch_323
                      · refine lv_iconst (v := 2) hx hb dX2_fetch_267 (by decide) ?_
                        have hr9 : gI (mRoom0 (mMiss (uI (uI σ 20 0) 20 0) k pr) sz9) 3 < mPin (mRoom0 (mMiss (uI (uI σ 20 0) 20 0) k pr) sz9) true + sz9 := by simpa using c_23
                        rw [if_pos hr9] at hP hD
                        exact x_iret hx hb hr hlocks hK (mRoom0 (mMiss (uI (uI σ 20 0) 20 0) k pr) sz9) hP hD hS ⟨fun h9 => absurd h9 (by first | decide | (rw [hT]; decide)), fun j hj e9 => by rw [← nI_inj32 hk hj e9]; exact ⟨fun h9 => absurd (hok.symm.trans h9) (by decide), fun _ => by simp [mFetch, hh, eL, hr9, c_21, c_22]⟩⟩ dX2_fetch_268
                    · refine lv_iload hx hb dX2_fetch_254 (lv_at hl 0 rfl) ?_
                      refine lv_if_eq (tgt := 267) hx hb dX2_fetch_256 (by decide) (fun _ => ?_) (fun c_24 => absurd (by decide) c_24)
                      refine lv_iconst (v := 2) hx hb dX2_fetch_267 (by decide) ?_
                      exact x_iret hx hb hr hlocks hK (mMiss (uI (uI σ 20 0) 20 0) k pr) hP hD hS ⟨fun h9 => absurd h9 (by first | decide | (rw [hT]; decide)), fun j hj e9 => by rw [← nI_inj32 hk hj e9]; exact ⟨fun h9 => absurd (hok.symm.trans h9) (by decide), fun _ => by simp [mFetch, hh, eL, c_21, c_22]⟩⟩ dX2_fetch_268
                · refine lv_iconst (v := 1) hx hb dX2_fetch_222 (by decide) ?_
                  refine lv_goto (tgt := 227) hx hb dX2_fetch_223 (by decide) ?_
                  refine lv_iadd hx hb dX2_fetch_227 ?_
                  refine m_put hx hb hts hi2 hown hK hP hD hS 20 (by decide) (List.mem_of_getElem? (i := 13) rfl) (v := .int ((gI σ 12) + 1)) (ty := .int) (uI (uL (uI (uS (uI (uI σ 20 0) 20 0) 8 k (gI σ 1)) 7 ((gI σ 7) + 1)) 10 ((gL σ 10) + pr.toInt64)) 12 ((gI σ 12) + 1)) (mF_20 bx ba cI cJ cZ _ _) rfl (by decide +kernel) rfl rfl dX2_fetch_228 (fun _ h => h) (fun H locs hP hD hS => ?_)
                  refine lv_aload_n hx hb dX2_fetch_231 rfl (lv_at hl 1 rfl) ?_
                  refine m_get hx hb hts hi2 hown hK hP 5 (by decide) (List.mem_of_getElem? (i := 2) rfl) (v := .ref (ba 0)) rfl dX2_fetch_232 (fun _ h => h) ?_
                  refine lv_iload_n hx hb dX2_fetch_235 rfl (lv_at hl 2 rfl) ?_
                  refine lv_iconst (v := 0) hx hb dX2_fetch_236 (by decide) ?_
                  refine m_st0 (v := false) hx hb hK hP hD hS hk dX2_fetch_237 (fun H locs hP hD hS => ?_)
                  have eM : mMiss (uI (uI σ 20 0) 20 0) k pr = uB (uI (uL (uI (uS (uI (uI σ 20 0) 20 0) 8 k (gI σ 1)) 7 ((gI σ 7) + 1)) 10 ((gL σ 10) + pr.toInt64)) 12 (gI σ 12 + (if ovr (uL (uI (uS (uI (uI σ 20 0) 20 0) 8 k (gI σ 1)) 7 ((gI σ 7) + 1)) 10 ((gL σ 10) + pr.toInt64)) k then 1 else 0))) 1 k false := rfl
                  rw [if_pos c_20] at eM
                  rw [← eM] at hP hD
                  refine lv_iload_n hx hb dX2_fetch_238 rfl (lv_at hl 3 rfl) ?_
                  refine lv_aload_n hx hb dX2_fetch_239 rfl (lv_at hl 1 rfl) ?_
                  refine m_get hx hb hts hi2 hown hK hP 0 (by decide) (List.mem_of_getElem? (i := 14) rfl) (v := .int (gI (mMiss (uI (uI σ 20 0) 20 0) k pr) 3)) rfl dX2_fetch_240 (fun _ h => h) ?_
                  refine lv_icmp_gt (tgt := 267) hx hb dX2_fetch_243 (by decide) (fun c_25 => ?_) (fun c_25 => ?_)
                  · refine lv_iconst (v := 2) hx hb dX2_fetch_267 (by decide) ?_
                    exact x_iret hx hb hr hlocks hK (mMiss (uI (uI σ 20 0) 20 0) k pr) hP hD hS ⟨fun h9 => absurd h9 (by first | decide | (rw [hT]; decide)), fun j hj e9 => by rw [← nI_inj32 hk hj e9]; exact ⟨fun h9 => absurd (hok.symm.trans h9) (by decide), fun _ => by simp [mFetch, hh, eL, c_25]⟩⟩ dX2_fetch_268
                  · refine lv_iload_n hx hb dX2_fetch_246 rfl (lv_at hl 3 rfl) ?_
                    refine lv_aload_n hx hb dX2_fetch_247 rfl (lv_at hl 1 rfl) ?_
                    refine m_get hx hb hts hi2 hown hK hP 1 (by decide) (List.mem_of_getElem? (i := 15) rfl) (v := .int (gI (mMiss (uI (uI σ 20 0) 20 0) k pr) 4)) rfl dX2_fetch_248 (fun _ h => h) ?_
                    refine x_icmp_le (tgt := 259) hx hb dX2_fetch_251 (by decide) (fun c_26 => ?_) (fun c_26 => ?_)
                    · refine lv_aload_n hx hb dX2_fetch_259 rfl (lv_at hl 1 rfl) ?_
                      refine lv_iload_n hx hb dX2_fetch_260 rfl (lv_at hl 3 rfl) ?_
                      refine x_calli (va_runV (As := [.int sz9]) (rest := []) ⟨hx, hb, hml, hown, hts⟩ (k_X2_makesRoom l D bx ba cI cJ cZ H.size (mMiss (uI (uI σ 20 0) 20 0) k pr) sz9 N τ (h k hk rfl)) (cwV 1 hts gX2_fetch_X2_makesRoom rfl rfl rfl (by decide +kernel) ⟨Nat.le_of_ble_eq_true rfl, Nat.le_of_ble_eq_true rfl⟩) (xPreV mE_ok hE hK hA hP hD hS (q0 := 0) (ci := 2) rfl rfl rfl) rfl rfl hl.1 rfl (lv_room (Nat.le_of_ble_eq_true rfl)) dX2_fetch_261 ⟨Nat.le_of_ble_eq_true rfl, Nat.le_of_ble_eq_true rfl⟩) hD hS hA (fun r u H locs hp hP hD hS => ?_)
                      obtain ⟨rfl, hu9⟩ := hp
                      rw [hu9] at hP hD
                      refine x_ifne (tgt := 269) hx hb dX2_fetch_264 (by decide) (fun c_27 => ?_) (fun c_27 => ?_)
                      · have hr9 : ¬ gI (mRoom0 (mMiss (uI (uI σ 20 0) 20 0) k pr) sz9) 3 < mPin (mRoom0 (mMiss (uI (uI σ 20 0) 20 0) k pr) sz9) true + sz9 := by simpa using c_27
                        rw [if_neg hr9] at hP hD
                        refine lv_aload_n hx hb dX2_fetch_269 rfl (lv_at hl 1 rfl) ?_
                        refine m_get hx hb hts hi2 hown hK hP 5 (by decide) (List.mem_of_getElem? (i := 2) rfl) (v := .ref (ba 0)) rfl dX2_fetch_270 (fun _ h => h) ?_
                        refine lv_iload_n hx hb dX2_fetch_273 rfl (lv_at hl 2 rfl) ?_
                        refine lv_iconst (v := 1) hx hb dX2_fetch_274 (by decide) ?_
                        refine m_st0 (v := true) hx hb hK hP hD hS hk dX2_fetch_275 (fun H locs hP hD hS => ?_)
                        refine lv_aload_n hx hb dX2_fetch_276 rfl (lv_at hl 1 rfl) ?_
                        refine m_get hx hb hts hi2 hown hK hP 6 (by decide) (List.mem_of_getElem? (i := 16) rfl) (v := .ref (ba 1)) rfl dX2_fetch_277 (fun _ h => h) ?_
                        refine lv_iload_n hx hb dX2_fetch_280 rfl (lv_at hl 2 rfl) ?_
                        refine lv_iconst (v := 0) hx hb dX2_fetch_281 (by decide) ?_
                        refine m_st1 (v := false) hx hb hK hP hD hS hk dX2_fetch_282 (fun H locs hP hD hS => ?_)
                        refine lv_aload_n hx hb dX2_fetch_283 rfl (lv_at hl 1 rfl) ?_
                        refine m_get hx hb hts hi2 hown hK hP 7 (by decide) (List.mem_of_getElem? (i := 3) rfl) (v := .ref (ba 2)) rfl dX2_fetch_284 (fun _ h => h) ?_
                        refine lv_iload_n hx hb dX2_fetch_287 rfl (lv_at hl 2 rfl) ?_
                        refine lv_iload_n hx hb dX2_fetch_288 rfl (lv_at hl 3 rfl) ?_
                        refine m_st2 (v := sz9) hx hb hK hP hD hS hk dX2_fetch_289 (fun H locs hP hD hS => ?_)
                        refine lv_aload_n hx hb dX2_fetch_290 rfl (lv_at hl 1 rfl) ?_
                        refine m_get hx hb hts hi2 hown hK hP 8 (by decide) (List.mem_of_getElem? (i := 5) rfl) (v := .ref (ba 3)) rfl dX2_fetch_291 (fun _ h => h) ?_
                        refine lv_iload_n hx hb dX2_fetch_294 rfl (lv_at hl 2 rfl) ?_
                        refine lv_iload_n hx hb dX2_fetch_295 rfl (lv_at hl 4 rfl) ?_
                        refine m_st3 (v := pr) hx hb hK hP hD hS hk dX2_fetch_296 (fun H locs hP hD hS => ?_)
                        refine lv_aload_n hx hb dX2_fetch_297 rfl (lv_at hl 1 rfl) ?_
                        refine m_get hx hb hts hi2 hown hK hP 9 (by decide) (List.mem_of_getElem? (i := 4) rfl) (v := .ref (ba 4)) rfl dX2_fetch_298 (fun _ h => h) ?_
                        refine lv_iload_n hx hb dX2_fetch_301 rfl (lv_at hl 2 rfl) ?_
                        refine lv_iconst (v := 1) hx hb dX2_fetch_302 (by decide) ?_
                        refine m_st4 (v := 1) hx hb hK hP hD hS hk dX2_fetch_303 (fun H locs hP hD hS => ?_)
                        refine lv_aload_n hx hb dX2_fetch_304 rfl (lv_at hl 1 rfl) ?_
                        refine m_get hx hb hts hi2 hown hK hP 11 (by decide) (List.mem_of_getElem? (i := 17) rfl) (v := .ref (ba 6)) rfl dX2_fetch_305 (fun _ h => h) ?_
                        refine lv_iload_n hx hb dX2_fetch_308 rfl (lv_at hl 2 rfl) ?_
                        refine lv_aload_n hx hb dX2_fetch_309 rfl (lv_at hl 1 rfl) ?_
                        refine m_get hx hb hts hi2 hown hK hP 2 (by decide) (List.mem_of_getElem? (i := 10) rfl) (v := .int (gI (τ N) 1)) rfl dX2_fetch_310 (fun _ h => h) ?_
                        refine lv_iload hx hb dX2_fetch_313 (lv_at hl 5 rfl) ?_
                        refine lv_iadd hx hb dX2_fetch_315 ?_
                        refine m_st6 (v := ((gI (τ N) 1) + lf)) hx hb hK hP hD hS hk dX2_fetch_316 (fun H locs hP hD hS => ?_)
                        refine lv_aload_n hx hb dX2_fetch_317 rfl (lv_at hl 1 rfl) ?_
                        refine lv_iload_n hx hb dX2_fetch_318 rfl (lv_at hl 2 rfl) ?_
                        refine x_callv (va_runV (As := [.int (nI k)]) (rest := []) ⟨hx, hb, hml, hown, hts⟩ (k_X2_setWorth l D bx ba cI cJ cZ H.size (uS (uS (uS (uS (uB (uB (τ N) 1 k true) 2 k false) 3 k sz9) 9 k pr) 4 k 1) 5 k ((gI (τ N) 1) + lf)) hk (by have h9 := hz9; simp [gS, uS, uB, va_up, h9])) (cwV 1 hts gX2_fetch_X2_setWorth rfl rfl rfl (by decide +kernel) ⟨Nat.le_of_ble_eq_true rfl, Nat.le_of_ble_eq_true rfl⟩) (xPreV mE_ok hE hK hA hP hD hS (q0 := 0) (ci := 2) rfl rfl rfl) rfl rfl hl.1 rfl (lv_room (Nat.le_of_ble_eq_true rfl)) dX2_fetch_319 ⟨Nat.le_of_ble_eq_true rfl, Nat.le_of_ble_eq_true rfl⟩) hD hS hA (fun u H locs hp hP hD hS => ?_)
                        rw [hp] at hP hD
                        refine lv_iconst (v := 1) hx hb dX2_fetch_322 (by decide) ?_
                        exact x_iret hx hb hr hlocks hK (mSetW (uS (uS (uS (uS (uB (uB (τ N) 1 k true) 2 k false) 3 k sz9) 9 k pr) 4 k 1) 5 k ((gI (τ N) 1) + lf)) k) hP hD hS ⟨fun h9 => absurd h9 (by first | decide | (rw [hT]; decide)), fun j hj e9 => by rw [← nI_inj32 hk hj e9]; exact ⟨fun h9 => absurd (hok.symm.trans h9) (by decide), fun _ => by have e1 : mFetch (uI (uI σ 20 0) 20 0) k sz9 pr lf (τ N) = (1, mFill (τ N) k sz9 pr lf) := (by simp [mFetch, hh, eL, hr9, c_25, c_26]); rw [e1]; exact ⟨rfl, rfl⟩⟩⟩ dX2_fetch_323
                      · refine lv_iconst (v := 2) hx hb dX2_fetch_267 (by decide) ?_
                        have hr9 : gI (mRoom0 (mMiss (uI (uI σ 20 0) 20 0) k pr) sz9) 3 < mPin (mRoom0 (mMiss (uI (uI σ 20 0) 20 0) k pr) sz9) true + sz9 := by simpa using c_27
                        rw [if_pos hr9] at hP hD
                        exact x_iret hx hb hr hlocks hK (mRoom0 (mMiss (uI (uI σ 20 0) 20 0) k pr) sz9) hP hD hS ⟨fun h9 => absurd h9 (by first | decide | (rw [hT]; decide)), fun j hj e9 => by rw [← nI_inj32 hk hj e9]; exact ⟨fun h9 => absurd (hok.symm.trans h9) (by decide), fun _ => by simp [mFetch, hh, eL, hr9, c_25, c_26]⟩⟩ dX2_fetch_268
                    · refine lv_iload hx hb dX2_fetch_254 (lv_at hl 0 rfl) ?_
                      refine lv_if_eq (tgt := 267) hx hb dX2_fetch_256 (by decide) (fun _ => ?_) (fun c_28 => absurd (by decide) c_28)
                      refine lv_iconst (v := 2) hx hb dX2_fetch_267 (by decide) ?_
                      exact x_iret hx hb hr hlocks hK (mMiss (uI (uI σ 20 0) 20 0) k pr) hP hD hS ⟨fun h9 => absurd h9 (by first | decide | (rw [hT]; decide)), fun j hj e9 => by rw [← nI_inj32 hk hj e9]; exact ⟨fun h9 => absurd (hok.symm.trans h9) (by decide), fun _ => by simp [mFetch, hh, eL, c_25, c_26]⟩⟩ dX2_fetch_268
              · refine lv_iconst (v := 1) hx hb dX2_fetch_171 (by decide) ?_
                refine lv_goto (tgt := 176) hx hb dX2_fetch_172 (by decide) ?_
                refine lv_istore (lv' := [(5, .int 1), (0, .ref bx), (1, .int (nI k)), (2, .int sz9), (3, .int pr), (4, .int lf)]) hx hb dX2_fetch_176 hl (by decide) rfl (fun ls hl => ?_)
                have eL : cLate (uI (uI σ 20 0) 20 0) k = true := by
                  show cLate σ k = _
                  simp [cLate, c_9, c_19]
                refine lv_aload_n hx hb dX2_fetch_178 rfl (lv_at hl 1 rfl) ?_
                refine m_get hx hb hts hi2 hown hK hP 13 (by decide) (List.mem_of_getElem? (i := 9) rfl) (v := .ref (ba 8)) rfl dX2_fetch_179 (fun _ h => h) ?_
                refine lv_iload_n hx hb dX2_fetch_182 rfl (lv_at hl 2 rfl) ?_
                refine lv_aload_n hx hb dX2_fetch_183 rfl (lv_at hl 1 rfl) ?_
                refine m_get hx hb hts hi2 hown hK hP 2 (by decide) (List.mem_of_getElem? (i := 10) rfl) (v := .int (gI σ 1)) rfl dX2_fetch_184 (fun _ h => h) ?_
                refine m_st8 (v := (gI σ 1)) hx hb hK hP hD hS hk dX2_fetch_187 (fun H locs hP hD hS => ?_)
                refine lv_aload_n hx hb dX2_fetch_188 rfl (lv_at hl 1 rfl) ?_
                refine lv_dup hx hb dX2_fetch_189 rfl ?_
                refine m_get hx hb hts hi2 hown hK hP 15 (by decide) (List.mem_of_getElem? (i := 11) rfl) (v := .int (gI σ 7)) rfl dX2_fetch_190 (fun _ h => h) ?_
                refine lv_iconst (v := 1) hx hb dX2_fetch_193 (by decide) ?_
                refine lv_iadd hx hb dX2_fetch_194 ?_
                refine m_put hx hb hts hi2 hown hK hP hD hS 15 (by decide) (List.mem_of_getElem? (i := 11) rfl) (v := .int ((gI σ 7) + 1)) (ty := .int) (uI (uS (uI (uI σ 20 0) 20 0) 8 k (gI σ 1)) 7 ((gI σ 7) + 1)) (mF_15 bx ba cI cJ cZ _ _) rfl (by decide +kernel) rfl rfl dX2_fetch_195 (fun _ h => h) (fun H locs hP hD hS => ?_)
                refine lv_aload_n hx hb dX2_fetch_198 rfl (lv_at hl 1 rfl) ?_
                refine lv_dup hx hb dX2_fetch_199 rfl ?_
                refine m_get hx hb hts hi2 hown hK hP 18 (by decide) (List.mem_of_getElem? (i := 12) rfl) (v := .long (gL σ 10)) rfl dX2_fetch_200 (fun _ h => h) ?_
                refine lv_iload_n hx hb dX2_fetch_203 rfl (lv_at hl 4 rfl) ?_
                refine lv_i2l (v := pr.toInt64) hx hb dX2_fetch_204 rfl ?_
                refine lv_ladd hx hb dX2_fetch_205 ?_
                refine m_put hx hb hts hi2 hown hK hP hD hS 18 (by decide) (List.mem_of_getElem? (i := 12) rfl) (v := .long ((gL σ 10) + pr.toInt64)) (ty := .long) (uL (uI (uS (uI (uI σ 20 0) 20 0) 8 k (gI σ 1)) 7 ((gI σ 7) + 1)) 10 ((gL σ 10) + pr.toInt64)) (mF_18 bx ba cI cJ cZ _ _) rfl (by decide +kernel) rfl rfl dX2_fetch_206 (fun _ h => h) (fun H locs hP hD hS => ?_)
                refine lv_aload_n hx hb dX2_fetch_209 rfl (lv_at hl 1 rfl) ?_
                refine lv_dup hx hb dX2_fetch_210 rfl ?_
                refine m_get hx hb hts hi2 hown hK hP 20 (by decide) (List.mem_of_getElem? (i := 13) rfl) (v := .int (gI σ 12)) rfl dX2_fetch_211 (fun _ h => h) ?_
                refine lv_aload_n hx hb dX2_fetch_214 rfl (lv_at hl 1 rfl) ?_
                refine lv_iload_n hx hb dX2_fetch_215 rfl (lv_at hl 2 rfl) ?_
                refine x_calli (va_runV (As := [.int (nI k)]) (rest := [.int (gI σ 12), .ref bx]) ⟨hx, hb, hml, hown, hts⟩ (k_X2_over l D bx ba cI cJ cZ H.size (uL (uI (uS (uI (uI σ 20 0) 20 0) 8 k (gI σ 1)) 7 ((gI σ 7) + 1)) 10 ((gL σ 10) + pr.toInt64)) hk) (cwV 1 hts gX2_fetch_X2_over rfl rfl rfl (by decide +kernel) ⟨Nat.le_of_ble_eq_true rfl, Nat.le_of_ble_eq_true rfl⟩) (xPreV mE_ok hE hK hA hP hD hS (q0 := 0) (ci := 2) rfl rfl rfl) rfl rfl hl.1 rfl (lv_room (Nat.le_of_ble_eq_true rfl)) dX2_fetch_216 ⟨Nat.le_of_ble_eq_true rfl, Nat.le_of_ble_eq_true rfl⟩) hD hS hA (fun r u H locs hp hP hD hS => ?_)
                obtain ⟨rfl, hu9⟩ := hp
                rw [hu9] at hP hD
                refine x_ifeq (tgt := 226) hx hb dX2_fetch_219 (by decide) (fun c_29 => ?_) (fun c_29 => ?_)
                · refine lv_iconst (v := 0) hx hb dX2_fetch_226 (by decide) ?_
                  refine lv_iadd hx hb dX2_fetch_227 ?_
                  refine m_put hx hb hts hi2 hown hK hP hD hS 20 (by decide) (List.mem_of_getElem? (i := 13) rfl) (v := .int ((gI σ 12) + 0)) (ty := .int) (uI (uL (uI (uS (uI (uI σ 20 0) 20 0) 8 k (gI σ 1)) 7 ((gI σ 7) + 1)) 10 ((gL σ 10) + pr.toInt64)) 12 ((gI σ 12) + 0)) (mF_20 bx ba cI cJ cZ _ _) rfl (by decide +kernel) rfl rfl dX2_fetch_228 (fun _ h => h) (fun H locs hP hD hS => ?_)
                  refine lv_aload_n hx hb dX2_fetch_231 rfl (lv_at hl 1 rfl) ?_
                  refine m_get hx hb hts hi2 hown hK hP 5 (by decide) (List.mem_of_getElem? (i := 2) rfl) (v := .ref (ba 0)) rfl dX2_fetch_232 (fun _ h => h) ?_
                  refine lv_iload_n hx hb dX2_fetch_235 rfl (lv_at hl 2 rfl) ?_
                  refine lv_iconst (v := 0) hx hb dX2_fetch_236 (by decide) ?_
                  refine m_st0 (v := false) hx hb hK hP hD hS hk dX2_fetch_237 (fun H locs hP hD hS => ?_)
                  have eM : mMiss (uI (uI σ 20 0) 20 0) k pr = uB (uI (uL (uI (uS (uI (uI σ 20 0) 20 0) 8 k (gI σ 1)) 7 ((gI σ 7) + 1)) 10 ((gL σ 10) + pr.toInt64)) 12 (gI σ 12 + (if ovr (uL (uI (uS (uI (uI σ 20 0) 20 0) 8 k (gI σ 1)) 7 ((gI σ 7) + 1)) 10 ((gL σ 10) + pr.toInt64)) k then 1 else 0))) 1 k false := rfl
                  rw [if_neg (show ¬ ovr (uL (uI (uS (uI (uI σ 20 0) 20 0) 8 k (gI σ 1)) 7 ((gI σ 7) + 1)) 10 ((gL σ 10) + pr.toInt64)) k = true by rw [c_29]; decide)] at eM
                  rw [← eM] at hP hD
                  refine lv_iload_n hx hb dX2_fetch_238 rfl (lv_at hl 3 rfl) ?_
                  refine lv_aload_n hx hb dX2_fetch_239 rfl (lv_at hl 1 rfl) ?_
                  refine m_get hx hb hts hi2 hown hK hP 0 (by decide) (List.mem_of_getElem? (i := 14) rfl) (v := .int (gI (mMiss (uI (uI σ 20 0) 20 0) k pr) 3)) rfl dX2_fetch_240 (fun _ h => h) ?_
                  refine lv_icmp_gt (tgt := 267) hx hb dX2_fetch_243 (by decide) (fun c_30 => ?_) (fun c_30 => ?_)
                  · refine lv_iconst (v := 2) hx hb dX2_fetch_267 (by decide) ?_
                    exact x_iret hx hb hr hlocks hK (mMiss (uI (uI σ 20 0) 20 0) k pr) hP hD hS ⟨fun h9 => absurd h9 (by first | decide | (rw [hT]; decide)), fun j hj e9 => by rw [← nI_inj32 hk hj e9]; exact ⟨fun h9 => absurd (hok.symm.trans h9) (by decide), fun _ => by simp [mFetch, hh, eL, c_30]⟩⟩ dX2_fetch_268
                  · refine lv_iload_n hx hb dX2_fetch_246 rfl (lv_at hl 3 rfl) ?_
                    refine lv_aload_n hx hb dX2_fetch_247 rfl (lv_at hl 1 rfl) ?_
                    refine m_get hx hb hts hi2 hown hK hP 1 (by decide) (List.mem_of_getElem? (i := 15) rfl) (v := .int (gI (mMiss (uI (uI σ 20 0) 20 0) k pr) 4)) rfl dX2_fetch_248 (fun _ h => h) ?_
                    refine x_icmp_le (tgt := 259) hx hb dX2_fetch_251 (by decide) (fun c_31 => ?_) (fun c_31 => ?_)
                    · refine lv_aload_n hx hb dX2_fetch_259 rfl (lv_at hl 1 rfl) ?_
                      refine lv_iload_n hx hb dX2_fetch_260 rfl (lv_at hl 3 rfl) ?_
                      refine x_calli (va_runV (As := [.int sz9]) (rest := []) ⟨hx, hb, hml, hown, hts⟩ (k_X2_makesRoom l D bx ba cI cJ cZ H.size (mMiss (uI (uI σ 20 0) 20 0) k pr) sz9 N τ (h k hk rfl)) (cwV 1 hts gX2_fetch_X2_makesRoom rfl rfl rfl (by decide +kernel) ⟨Nat.le_of_ble_eq_true rfl, Nat.le_of_ble_eq_true rfl⟩) (xPreV mE_ok hE hK hA hP hD hS (q0 := 0) (ci := 2) rfl rfl rfl) rfl rfl hl.1 rfl (lv_room (Nat.le_of_ble_eq_true rfl)) dX2_fetch_261 ⟨Nat.le_of_ble_eq_true rfl, Nat.le_of_ble_eq_true rfl⟩) hD hS hA (fun r u H locs hp hP hD hS => ?_)
                      obtain ⟨rfl, hu9⟩ := hp
                      rw [hu9] at hP hD
                      refine x_ifne (tgt := 269) hx hb dX2_fetch_264 (by decide) (fun c_32 => ?_) (fun c_32 => ?_)
                      · have hr9 : ¬ gI (mRoom0 (mMiss (uI (uI σ 20 0) 20 0) k pr) sz9) 3 < mPin (mRoom0 (mMiss (uI (uI σ 20 0) 20 0) k pr) sz9) true + sz9 := by simpa using c_32
                        rw [if_neg hr9] at hP hD
                        refine lv_aload_n hx hb dX2_fetch_269 rfl (lv_at hl 1 rfl) ?_
                        refine m_get hx hb hts hi2 hown hK hP 5 (by decide) (List.mem_of_getElem? (i := 2) rfl) (v := .ref (ba 0)) rfl dX2_fetch_270 (fun _ h => h) ?_
                        refine lv_iload_n hx hb dX2_fetch_273 rfl (lv_at hl 2 rfl) ?_
                        refine lv_iconst (v := 1) hx hb dX2_fetch_274 (by decide) ?_
                        refine m_st0 (v := true) hx hb hK hP hD hS hk dX2_fetch_275 (fun H locs hP hD hS => ?_)
                        refine lv_aload_n hx hb dX2_fetch_276 rfl (lv_at hl 1 rfl) ?_
                        refine m_get hx hb hts hi2 hown hK hP 6 (by decide) (List.mem_of_getElem? (i := 16) rfl) (v := .ref (ba 1)) rfl dX2_fetch_277 (fun _ h => h) ?_
                        refine lv_iload_n hx hb dX2_fetch_280 rfl (lv_at hl 2 rfl) ?_
                        refine lv_iconst (v := 0) hx hb dX2_fetch_281 (by decide) ?_
                        refine m_st1 (v := false) hx hb hK hP hD hS hk dX2_fetch_282 (fun H locs hP hD hS => ?_)
                        refine lv_aload_n hx hb dX2_fetch_283 rfl (lv_at hl 1 rfl) ?_
                        refine m_get hx hb hts hi2 hown hK hP 7 (by decide) (List.mem_of_getElem? (i := 3) rfl) (v := .ref (ba 2)) rfl dX2_fetch_284 (fun _ h => h) ?_
                        refine lv_iload_n hx hb dX2_fetch_287 rfl (lv_at hl 2 rfl) ?_
                        refine lv_iload_n hx hb dX2_fetch_288 rfl (lv_at hl 3 rfl) ?_
                        refine m_st2 (v := sz9) hx hb hK hP hD hS hk dX2_fetch_289 (fun H locs hP hD hS => ?_)
                        refine lv_aload_n hx hb dX2_fetch_290 rfl (lv_at hl 1 rfl) ?_
                        refine m_get hx hb hts hi2 hown hK hP 8 (by decide) (List.mem_of_getElem? (i := 5) rfl) (v := .ref (ba 3)) rfl dX2_fetch_291 (fun _ h => h) ?_
                        refine lv_iload_n hx hb dX2_fetch_294 rfl (lv_at hl 2 rfl) ?_
                        refine lv_iload_n hx hb dX2_fetch_295 rfl (lv_at hl 4 rfl) ?_
                        refine m_st3 (v := pr) hx hb hK hP hD hS hk dX2_fetch_296 (fun H locs hP hD hS => ?_)
                        refine lv_aload_n hx hb dX2_fetch_297 rfl (lv_at hl 1 rfl) ?_
                        refine m_get hx hb hts hi2 hown hK hP 9 (by decide) (List.mem_of_getElem? (i := 4) rfl) (v := .ref (ba 4)) rfl dX2_fetch_298 (fun _ h => h) ?_
                        refine lv_iload_n hx hb dX2_fetch_301 rfl (lv_at hl 2 rfl) ?_
                        refine lv_iconst (v := 1) hx hb dX2_fetch_302 (by decide) ?_
                        refine m_st4 (v := 1) hx hb hK hP hD hS hk dX2_fetch_303 (fun H locs hP hD hS => ?_)
                        refine lv_aload_n hx hb dX2_fetch_304 rfl (lv_at hl 1 rfl) ?_
                        refine m_get hx hb hts hi2 hown hK hP 11 (by decide) (List.mem_of_getElem? (i := 17) rfl) (v := .ref (ba 6)) rfl dX2_fetch_305 (fun _ h => h) ?_
                        refine lv_iload_n hx hb dX2_fetch_308 rfl (lv_at hl 2 rfl) ?_
                        refine lv_aload_n hx hb dX2_fetch_309 rfl (lv_at hl 1 rfl) ?_
                        refine m_get hx hb hts hi2 hown hK hP 2 (by decide) (List.mem_of_getElem? (i := 10) rfl) (v := .int (gI (τ N) 1)) rfl dX2_fetch_310 (fun _ h => h) ?_
                        refine lv_iload hx hb dX2_fetch_313 (lv_at hl 5 rfl) ?_
                        refine lv_iadd hx hb dX2_fetch_315 ?_
                        refine m_st6 (v := ((gI (τ N) 1) + lf)) hx hb hK hP hD hS hk dX2_fetch_316 (fun H locs hP hD hS => ?_)
                        refine lv_aload_n hx hb dX2_fetch_317 rfl (lv_at hl 1 rfl) ?_
                        refine lv_iload_n hx hb dX2_fetch_318 rfl (lv_at hl 2 rfl) ?_
                        refine x_callv (va_runV (As := [.int (nI k)]) (rest := []) ⟨hx, hb, hml, hown, hts⟩ (k_X2_setWorth l D bx ba cI cJ cZ H.size (uS (uS (uS (uS (uB (uB (τ N) 1 k true) 2 k false) 3 k sz9) 9 k pr) 4 k 1) 5 k ((gI (τ N) 1) + lf)) hk (by have h9 := hz9; simp [gS, uS, uB, va_up, h9])) (cwV 1 hts gX2_fetch_X2_setWorth rfl rfl rfl (by decide +kernel) ⟨Nat.le_of_ble_eq_true rfl, Nat.le_of_ble_eq_true rfl⟩) (xPreV mE_ok hE hK hA hP hD hS (q0 := 0) (ci := 2) rfl rfl rfl) rfl rfl hl.1 rfl (lv_room (Nat.le_of_ble_eq_true rfl)) dX2_fetch_319 ⟨Nat.le_of_ble_eq_true rfl, Nat.le_of_ble_eq_true rfl⟩) hD hS hA (fun u H locs hp hP hD hS => ?_)
                        rw [hp] at hP hD
                        refine lv_iconst (v := 1) hx hb dX2_fetch_322 (by decide) ?_
                        exact x_iret hx hb hr hlocks hK (mSetW (uS (uS (uS (uS (uB (uB (τ N) 1 k true) 2 k false) 3 k sz9) 9 k pr) 4 k 1) 5 k ((gI (τ N) 1) + lf)) k) hP hD hS ⟨fun h9 => absurd h9 (by first | decide | (rw [hT]; decide)), fun j hj e9 => by rw [← nI_inj32 hk hj e9]; exact ⟨fun h9 => absurd (hok.symm.trans h9) (by decide), fun _ => by have e1 : mFetch (uI (uI σ 20 0) 20 0) k sz9 pr lf (τ N) = (1, mFill (τ N) k sz9 pr lf) := (by simp [mFetch, hh, eL, hr9, c_30, c_31]); rw [e1]; exact ⟨rfl, rfl⟩⟩⟩ dX2_fetch_323
                      · refine lv_iconst (v := 2) hx hb dX2_fetch_267 (by decide) ?_
                        have hr9 : gI (mRoom0 (mMiss (uI (uI σ 20 0) 20 0) k pr) sz9) 3 < mPin (mRoom0 (mMiss (uI (uI σ 20 0) 20 0) k pr) sz9) true + sz9 := by simpa using c_32
                        rw [if_pos hr9] at hP hD
                        exact x_iret hx hb hr hlocks hK (mRoom0 (mMiss (uI (uI σ 20 0) 20 0) k pr) sz9) hP hD hS ⟨fun h9 => absurd h9 (by first | decide | (rw [hT]; decide)), fun j hj e9 => by rw [← nI_inj32 hk hj e9]; exact ⟨fun h9 => absurd (hok.symm.trans h9) (by decide), fun _ => by simp [mFetch, hh, eL, hr9, c_30, c_31]⟩⟩ dX2_fetch_268
                    · refine lv_iload hx hb dX2_fetch_254 (lv_at hl 0 rfl) ?_
                      refine lv_if_eq (tgt := 267) hx hb dX2_fetch_256 (by decide) (fun c_33 => absurd c_33 (by decide)) (fun _ => ?_)
                      refine lv_aload_n hx hb dX2_fetch_259 rfl (lv_at hl 1 rfl) ?_
                      refine lv_iload_n hx hb dX2_fetch_260 rfl (lv_at hl 3 rfl) ?_
                      refine x_calli (va_runV (As := [.int sz9]) (rest := []) ⟨hx, hb, hml, hown, hts⟩ (k_X2_makesRoom l D bx ba cI cJ cZ H.size (mMiss (uI (uI σ 20 0) 20 0) k pr) sz9 N τ (h k hk rfl)) (cwV 1 hts gX2_fetch_X2_makesRoom rfl rfl rfl (by decide +kernel) ⟨Nat.le_of_ble_eq_true rfl, Nat.le_of_ble_eq_true rfl⟩) (xPreV mE_ok hE hK hA hP hD hS (q0 := 0) (ci := 2) rfl rfl rfl) rfl rfl hl.1 rfl (lv_room (Nat.le_of_ble_eq_true rfl)) dX2_fetch_261 ⟨Nat.le_of_ble_eq_true rfl, Nat.le_of_ble_eq_true rfl⟩) hD hS hA (fun r u H locs hp hP hD hS => ?_)
                      obtain ⟨rfl, hu9⟩ := hp
                      rw [hu9] at hP hD
                      refine x_ifne (tgt := 269) hx hb dX2_fetch_264 (by decide) (fun c_34 => ?_) (fun c_34 => ?_)
                      · have hr9 : ¬ gI (mRoom0 (mMiss (uI (uI σ 20 0) 20 0) k pr) sz9) 3 < mPin (mRoom0 (mMiss (uI (uI σ 20 0) 20 0) k pr) sz9) true + sz9 := by simpa using c_34
                        rw [if_neg hr9] at hP hD
                        refine lv_aload_n hx hb dX2_fetch_269 rfl (lv_at hl 1 rfl) ?_
                        refine m_get hx hb hts hi2 hown hK hP 5 (by decide) (List.mem_of_getElem? (i := 2) rfl) (v := .ref (ba 0)) rfl dX2_fetch_270 (fun _ h => h) ?_
                        refine lv_iload_n hx hb dX2_fetch_273 rfl (lv_at hl 2 rfl) ?_
                        refine lv_iconst (v := 1) hx hb dX2_fetch_274 (by decide) ?_
                        refine m_st0 (v := true) hx hb hK hP hD hS hk dX2_fetch_275 (fun H locs hP hD hS => ?_)
                        refine lv_aload_n hx hb dX2_fetch_276 rfl (lv_at hl 1 rfl) ?_
                        refine m_get hx hb hts hi2 hown hK hP 6 (by decide) (List.mem_of_getElem? (i := 16) rfl) (v := .ref (ba 1)) rfl dX2_fetch_277 (fun _ h => h) ?_
                        refine lv_iload_n hx hb dX2_fetch_280 rfl (lv_at hl 2 rfl) ?_
                        refine lv_iconst (v := 0) hx hb dX2_fetch_281 (by decide) ?_
                        refine m_st1 (v := false) hx hb hK hP hD hS hk dX2_fetch_282 (fun H locs hP hD hS => ?_)
                        refine lv_aload_n hx hb dX2_fetch_283 rfl (lv_at hl 1 rfl) ?_
                        refine m_get hx hb hts hi2 hown hK hP 7 (by decide) (List.mem_of_getElem? (i := 3) rfl) (v := .ref (ba 2)) rfl dX2_fetch_284 (fun _ h => h) ?_
                        refine lv_iload_n hx hb dX2_fetch_287 rfl (lv_at hl 2 rfl) ?_
                        refine lv_iload_n hx hb dX2_fetch_288 rfl (lv_at hl 3 rfl) ?_
                        refine m_st2 (v := sz9) hx hb hK hP hD hS hk dX2_fetch_289 (fun H locs hP hD hS => ?_)
                        refine lv_aload_n hx hb dX2_fetch_290 rfl (lv_at hl 1 rfl) ?_
                        refine m_get hx hb hts hi2 hown hK hP 8 (by decide) (List.mem_of_getElem? (i := 5) rfl) (v := .ref (ba 3)) rfl dX2_fetch_291 (fun _ h => h) ?_
                        refine lv_iload_n hx hb dX2_fetch_294 rfl (lv_at hl 2 rfl) ?_
                        refine lv_iload_n hx hb dX2_fetch_295 rfl (lv_at hl 4 rfl) ?_
                        refine m_st3 (v := pr) hx hb hK hP hD hS hk dX2_fetch_296 (fun H locs hP hD hS => ?_)
                        refine lv_aload_n hx hb dX2_fetch_297 rfl (lv_at hl 1 rfl) ?_
                        refine m_get hx hb hts hi2 hown hK hP 9 (by decide) (List.mem_of_getElem? (i := 4) rfl) (v := .ref (ba 4)) rfl dX2_fetch_298 (fun _ h => h) ?_
                        refine lv_iload_n hx hb dX2_fetch_301 rfl (lv_at hl 2 rfl) ?_
                        refine lv_iconst (v := 1) hx hb dX2_fetch_302 (by decide) ?_
                        refine m_st4 (v := 1) hx hb hK hP hD hS hk dX2_fetch_303 (fun H locs hP hD hS => ?_)
                        refine lv_aload_n hx hb dX2_fetch_304 rfl (lv_at hl 1 rfl) ?_
                        refine m_get hx hb hts hi2 hown hK hP 11 (by decide) (List.mem_of_getElem? (i := 17) rfl) (v := .ref (ba 6)) rfl dX2_fetch_305 (fun _ h => h) ?_
                        refine lv_iload_n hx hb dX2_fetch_308 rfl (lv_at hl 2 rfl) ?_
                        refine lv_aload_n hx hb dX2_fetch_309 rfl (lv_at hl 1 rfl) ?_
                        refine m_get hx hb hts hi2 hown hK hP 2 (by decide) (List.mem_of_getElem? (i := 10) rfl) (v := .int (gI (τ N) 1)) rfl dX2_fetch_310 (fun _ h => h) ?_
                        refine lv_iload hx hb dX2_fetch_313 (lv_at hl 5 rfl) ?_
                        refine lv_iadd hx hb dX2_fetch_315 ?_
                        refine m_st6 (v := ((gI (τ N) 1) + lf)) hx hb hK hP hD hS hk dX2_fetch_316 (fun H locs hP hD hS => ?_)
                        refine lv_aload_n hx hb dX2_fetch_317 rfl (lv_at hl 1 rfl) ?_
                        refine lv_iload_n hx hb dX2_fetch_318 rfl (lv_at hl 2 rfl) ?_
                        refine x_callv (va_runV (As := [.int (nI k)]) (rest := []) ⟨hx, hb, hml, hown, hts⟩ (k_X2_setWorth l D bx ba cI cJ cZ H.size (uS (uS (uS (uS (uB (uB (τ N) 1 k true) 2 k false) 3 k sz9) 9 k pr) 4 k 1) 5 k ((gI (τ N) 1) + lf)) hk (by have h9 := hz9; simp [gS, uS, uB, va_up, h9])) (cwV 1 hts gX2_fetch_X2_setWorth rfl rfl rfl (by decide +kernel) ⟨Nat.le_of_ble_eq_true rfl, Nat.le_of_ble_eq_true rfl⟩) (xPreV mE_ok hE hK hA hP hD hS (q0 := 0) (ci := 2) rfl rfl rfl) rfl rfl hl.1 rfl (lv_room (Nat.le_of_ble_eq_true rfl)) dX2_fetch_319 ⟨Nat.le_of_ble_eq_true rfl, Nat.le_of_ble_eq_true rfl⟩) hD hS hA (fun u H locs hp hP hD hS => ?_)
                        rw [hp] at hP hD
                        refine lv_iconst (v := 1) hx hb dX2_fetch_322 (by decide) ?_
                        exact x_iret hx hb hr hlocks hK (mSetW (uS (uS (uS (uS (uB (uB (τ N) 1 k true) 2 k false) 3 k sz9) 9 k pr) 4 k 1) 5 k ((gI (τ N) 1) + lf)) k) hP hD hS ⟨fun h9 => absurd h9 (by first | decide | (rw [hT]; decide)), fun j hj e9 => by rw [← nI_inj32 hk hj e9]; exact ⟨fun h9 => absurd (hok.symm.trans h9) (by decide), fun _ => by have e1 : mFetch (uI (uI σ 20 0) 20 0) k sz9 pr lf (τ N) = (1, mFill (τ N) k sz9 pr lf) := (by simp [mFetch, hh, eL, hr9, c_30, c_31]); rw [e1]; exact ⟨rfl, rfl⟩⟩⟩ dX2_fetch_323
                      · refine lv_iconst (v := 2) hx hb dX2_fetch_267 (by decide) ?_
                        have hr9 : gI (mRoom0 (mMiss (uI (uI σ 20 0) 20 0) k pr) sz9) 3 < mPin (mRoom0 (mMiss (uI (uI σ 20 0) 20 0) k pr) sz9) true + sz9 := by simpa using c_34
                        rw [if_pos hr9] at hP hD
                        exact x_iret hx hb hr hlocks hK (mRoom0 (mMiss (uI (uI σ 20 0) 20 0) k pr) sz9) hP hD hS ⟨fun h9 => absurd h9 (by first | decide | (rw [hT]; decide)), fun j hj e9 => by rw [← nI_inj32 hk hj e9]; exact ⟨fun h9 => absurd (hok.symm.trans h9) (by decide), fun _ => by simp [mFetch, hh, eL, hr9, c_30, c_31]⟩⟩ dX2_fetch_268
                · refine lv_iconst (v := 1) hx hb dX2_fetch_222 (by decide) ?_
                  refine lv_goto (tgt := 227) hx hb dX2_fetch_223 (by decide) ?_
                  refine lv_iadd hx hb dX2_fetch_227 ?_
                  refine m_put hx hb hts hi2 hown hK hP hD hS 20 (by decide) (List.mem_of_getElem? (i := 13) rfl) (v := .int ((gI σ 12) + 1)) (ty := .int) (uI (uL (uI (uS (uI (uI σ 20 0) 20 0) 8 k (gI σ 1)) 7 ((gI σ 7) + 1)) 10 ((gL σ 10) + pr.toInt64)) 12 ((gI σ 12) + 1)) (mF_20 bx ba cI cJ cZ _ _) rfl (by decide +kernel) rfl rfl dX2_fetch_228 (fun _ h => h) (fun H locs hP hD hS => ?_)
                  refine lv_aload_n hx hb dX2_fetch_231 rfl (lv_at hl 1 rfl) ?_
                  refine m_get hx hb hts hi2 hown hK hP 5 (by decide) (List.mem_of_getElem? (i := 2) rfl) (v := .ref (ba 0)) rfl dX2_fetch_232 (fun _ h => h) ?_
                  refine lv_iload_n hx hb dX2_fetch_235 rfl (lv_at hl 2 rfl) ?_
                  refine lv_iconst (v := 0) hx hb dX2_fetch_236 (by decide) ?_
                  refine m_st0 (v := false) hx hb hK hP hD hS hk dX2_fetch_237 (fun H locs hP hD hS => ?_)
                  have eM : mMiss (uI (uI σ 20 0) 20 0) k pr = uB (uI (uL (uI (uS (uI (uI σ 20 0) 20 0) 8 k (gI σ 1)) 7 ((gI σ 7) + 1)) 10 ((gL σ 10) + pr.toInt64)) 12 (gI σ 12 + (if ovr (uL (uI (uS (uI (uI σ 20 0) 20 0) 8 k (gI σ 1)) 7 ((gI σ 7) + 1)) 10 ((gL σ 10) + pr.toInt64)) k then 1 else 0))) 1 k false := rfl
                  rw [if_pos c_29] at eM
                  rw [← eM] at hP hD
                  refine lv_iload_n hx hb dX2_fetch_238 rfl (lv_at hl 3 rfl) ?_
                  refine lv_aload_n hx hb dX2_fetch_239 rfl (lv_at hl 1 rfl) ?_
                  refine m_get hx hb hts hi2 hown hK hP 0 (by decide) (List.mem_of_getElem? (i := 14) rfl) (v := .int (gI (mMiss (uI (uI σ 20 0) 20 0) k pr) 3)) rfl dX2_fetch_240 (fun _ h => h) ?_
                  refine lv_icmp_gt (tgt := 267) hx hb dX2_fetch_243 (by decide) (fun c_35 => ?_) (fun c_35 => ?_)
                  · refine lv_iconst (v := 2) hx hb dX2_fetch_267 (by decide) ?_
                    exact x_iret hx hb hr hlocks hK (mMiss (uI (uI σ 20 0) 20 0) k pr) hP hD hS ⟨fun h9 => absurd h9 (by first | decide | (rw [hT]; decide)), fun j hj e9 => by rw [← nI_inj32 hk hj e9]; exact ⟨fun h9 => absurd (hok.symm.trans h9) (by decide), fun _ => by simp [mFetch, hh, eL, c_35]⟩⟩ dX2_fetch_268
                  · refine lv_iload_n hx hb dX2_fetch_246 rfl (lv_at hl 3 rfl) ?_
                    refine lv_aload_n hx hb dX2_fetch_247 rfl (lv_at hl 1 rfl) ?_
                    refine m_get hx hb hts hi2 hown hK hP 1 (by decide) (List.mem_of_getElem? (i := 15) rfl) (v := .int (gI (mMiss (uI (uI σ 20 0) 20 0) k pr) 4)) rfl dX2_fetch_248 (fun _ h => h) ?_
                    refine x_icmp_le (tgt := 259) hx hb dX2_fetch_251 (by decide) (fun c_36 => ?_) (fun c_36 => ?_)
                    · refine lv_aload_n hx hb dX2_fetch_259 rfl (lv_at hl 1 rfl) ?_
                      refine lv_iload_n hx hb dX2_fetch_260 rfl (lv_at hl 3 rfl) ?_
                      refine x_calli (va_runV (As := [.int sz9]) (rest := []) ⟨hx, hb, hml, hown, hts⟩ (k_X2_makesRoom l D bx ba cI cJ cZ H.size (mMiss (uI (uI σ 20 0) 20 0) k pr) sz9 N τ (h k hk rfl)) (cwV 1 hts gX2_fetch_X2_makesRoom rfl rfl rfl (by decide +kernel) ⟨Nat.le_of_ble_eq_true rfl, Nat.le_of_ble_eq_true rfl⟩) (xPreV mE_ok hE hK hA hP hD hS (q0 := 0) (ci := 2) rfl rfl rfl) rfl rfl hl.1 rfl (lv_room (Nat.le_of_ble_eq_true rfl)) dX2_fetch_261 ⟨Nat.le_of_ble_eq_true rfl, Nat.le_of_ble_eq_true rfl⟩) hD hS hA (fun r u H locs hp hP hD hS => ?_)
                      obtain ⟨rfl, hu9⟩ := hp
                      rw [hu9] at hP hD
                      refine x_ifne (tgt := 269) hx hb dX2_fetch_264 (by decide) (fun c_37 => ?_) (fun c_37 => ?_)
                      · have hr9 : ¬ gI (mRoom0 (mMiss (uI (uI σ 20 0) 20 0) k pr) sz9) 3 < mPin (mRoom0 (mMiss (uI (uI σ 20 0) 20 0) k pr) sz9) true + sz9 := by simpa using c_37
                        rw [if_neg hr9] at hP hD
                        refine lv_aload_n hx hb dX2_fetch_269 rfl (lv_at hl 1 rfl) ?_
                        refine m_get hx hb hts hi2 hown hK hP 5 (by decide) (List.mem_of_getElem? (i := 2) rfl) (v := .ref (ba 0)) rfl dX2_fetch_270 (fun _ h => h) ?_
                        refine lv_iload_n hx hb dX2_fetch_273 rfl (lv_at hl 2 rfl) ?_
                        refine lv_iconst (v := 1) hx hb dX2_fetch_274 (by decide) ?_
                        refine m_st0 (v := true) hx hb hK hP hD hS hk dX2_fetch_275 (fun H locs hP hD hS => ?_)
                        refine lv_aload_n hx hb dX2_fetch_276 rfl (lv_at hl 1 rfl) ?_
                        refine m_get hx hb hts hi2 hown hK hP 6 (by decide) (List.mem_of_getElem? (i := 16) rfl) (v := .ref (ba 1)) rfl dX2_fetch_277 (fun _ h => h) ?_
                        refine lv_iload_n hx hb dX2_fetch_280 rfl (lv_at hl 2 rfl) ?_
                        refine lv_iconst (v := 0) hx hb dX2_fetch_281 (by decide) ?_
                        refine m_st1 (v := false) hx hb hK hP hD hS hk dX2_fetch_282 (fun H locs hP hD hS => ?_)
                        refine lv_aload_n hx hb dX2_fetch_283 rfl (lv_at hl 1 rfl) ?_
                        refine m_get hx hb hts hi2 hown hK hP 7 (by decide) (List.mem_of_getElem? (i := 3) rfl) (v := .ref (ba 2)) rfl dX2_fetch_284 (fun _ h => h) ?_
                        refine lv_iload_n hx hb dX2_fetch_287 rfl (lv_at hl 2 rfl) ?_
                        refine lv_iload_n hx hb dX2_fetch_288 rfl (lv_at hl 3 rfl) ?_
                        refine m_st2 (v := sz9) hx hb hK hP hD hS hk dX2_fetch_289 (fun H locs hP hD hS => ?_)
                        refine lv_aload_n hx hb dX2_fetch_290 rfl (lv_at hl 1 rfl) ?_
                        refine m_get hx hb hts hi2 hown hK hP 8 (by decide) (List.mem_of_getElem? (i := 5) rfl) (v := .ref (ba 3)) rfl dX2_fetch_291 (fun _ h => h) ?_
                        refine lv_iload_n hx hb dX2_fetch_294 rfl (lv_at hl 2 rfl) ?_
                        refine lv_iload_n hx hb dX2_fetch_295 rfl (lv_at hl 4 rfl) ?_
                        refine m_st3 (v := pr) hx hb hK hP hD hS hk dX2_fetch_296 (fun H locs hP hD hS => ?_)
                        refine lv_aload_n hx hb dX2_fetch_297 rfl (lv_at hl 1 rfl) ?_
                        refine m_get hx hb hts hi2 hown hK hP 9 (by decide) (List.mem_of_getElem? (i := 4) rfl) (v := .ref (ba 4)) rfl dX2_fetch_298 (fun _ h => h) ?_
                        refine lv_iload_n hx hb dX2_fetch_301 rfl (lv_at hl 2 rfl) ?_
                        refine lv_iconst (v := 1) hx hb dX2_fetch_302 (by decide) ?_
                        refine m_st4 (v := 1) hx hb hK hP hD hS hk dX2_fetch_303 (fun H locs hP hD hS => ?_)
                        refine lv_aload_n hx hb dX2_fetch_304 rfl (lv_at hl 1 rfl) ?_
                        refine m_get hx hb hts hi2 hown hK hP 11 (by decide) (List.mem_of_getElem? (i := 17) rfl) (v := .ref (ba 6)) rfl dX2_fetch_305 (fun _ h => h) ?_
                        refine lv_iload_n hx hb dX2_fetch_308 rfl (lv_at hl 2 rfl) ?_
                        refine lv_aload_n hx hb dX2_fetch_309 rfl (lv_at hl 1 rfl) ?_
                        refine m_get hx hb hts hi2 hown hK hP 2 (by decide) (List.mem_of_getElem? (i := 10) rfl) (v := .int (gI (τ N) 1)) rfl dX2_fetch_310 (fun _ h => h) ?_
                        refine lv_iload hx hb dX2_fetch_313 (lv_at hl 5 rfl) ?_
                        refine lv_iadd hx hb dX2_fetch_315 ?_
                        refine m_st6 (v := ((gI (τ N) 1) + lf)) hx hb hK hP hD hS hk dX2_fetch_316 (fun H locs hP hD hS => ?_)
                        refine lv_aload_n hx hb dX2_fetch_317 rfl (lv_at hl 1 rfl) ?_
                        refine lv_iload_n hx hb dX2_fetch_318 rfl (lv_at hl 2 rfl) ?_
                        refine x_callv (va_runV (As := [.int (nI k)]) (rest := []) ⟨hx, hb, hml, hown, hts⟩ (k_X2_setWorth l D bx ba cI cJ cZ H.size (uS (uS (uS (uS (uB (uB (τ N) 1 k true) 2 k false) 3 k sz9) 9 k pr) 4 k 1) 5 k ((gI (τ N) 1) + lf)) hk (by have h9 := hz9; simp [gS, uS, uB, va_up, h9])) (cwV 1 hts gX2_fetch_X2_setWorth rfl rfl rfl (by decide +kernel) ⟨Nat.le_of_ble_eq_true rfl, Nat.le_of_ble_eq_true rfl⟩) (xPreV mE_ok hE hK hA hP hD hS (q0 := 0) (ci := 2) rfl rfl rfl) rfl rfl hl.1 rfl (lv_room (Nat.le_of_ble_eq_true rfl)) dX2_fetch_319 ⟨Nat.le_of_ble_eq_true rfl, Nat.le_of_ble_eq_true rfl⟩) hD hS hA (fun u H locs hp hP hD hS => ?_)
                        rw [hp] at hP hD
                        refine lv_iconst (v := 1) hx hb dX2_fetch_322 (by decide) ?_
                        exact x_iret hx hb hr hlocks hK (mSetW (uS (uS (uS (uS (uB (uB (τ N) 1 k true) 2 k false) 3 k sz9) 9 k pr) 4 k 1) 5 k ((gI (τ N) 1) + lf)) k) hP hD hS ⟨fun h9 => absurd h9 (by first | decide | (rw [hT]; decide)), fun j hj e9 => by rw [← nI_inj32 hk hj e9]; exact ⟨fun h9 => absurd (hok.symm.trans h9) (by decide), fun _ => by have e1 : mFetch (uI (uI σ 20 0) 20 0) k sz9 pr lf (τ N) = (1, mFill (τ N) k sz9 pr lf) := (by simp [mFetch, hh, eL, hr9, c_35, c_36]); rw [e1]; exact ⟨rfl, rfl⟩⟩⟩ dX2_fetch_323
                      · refine lv_iconst (v := 2) hx hb dX2_fetch_267 (by decide) ?_
                        have hr9 : gI (mRoom0 (mMiss (uI (uI σ 20 0) 20 0) k pr) sz9) 3 < mPin (mRoom0 (mMiss (uI (uI σ 20 0) 20 0) k pr) sz9) true + sz9 := by simpa using c_37
                        rw [if_pos hr9] at hP hD
                        exact x_iret hx hb hr hlocks hK (mRoom0 (mMiss (uI (uI σ 20 0) 20 0) k pr) sz9) hP hD hS ⟨fun h9 => absurd h9 (by first | decide | (rw [hT]; decide)), fun j hj e9 => by rw [← nI_inj32 hk hj e9]; exact ⟨fun h9 => absurd (hok.symm.trans h9) (by decide), fun _ => by simp [mFetch, hh, eL, hr9, c_35, c_36]⟩⟩ dX2_fetch_268
                    · refine lv_iload hx hb dX2_fetch_254 (lv_at hl 0 rfl) ?_
                      refine lv_if_eq (tgt := 267) hx hb dX2_fetch_256 (by decide) (fun c_38 => absurd c_38 (by decide)) (fun _ => ?_)
                      refine lv_aload_n hx hb dX2_fetch_259 rfl (lv_at hl 1 rfl) ?_
                      refine lv_iload_n hx hb dX2_fetch_260 rfl (lv_at hl 3 rfl) ?_
                      refine x_calli (va_runV (As := [.int sz9]) (rest := []) ⟨hx, hb, hml, hown, hts⟩ (k_X2_makesRoom l D bx ba cI cJ cZ H.size (mMiss (uI (uI σ 20 0) 20 0) k pr) sz9 N τ (h k hk rfl)) (cwV 1 hts gX2_fetch_X2_makesRoom rfl rfl rfl (by decide +kernel) ⟨Nat.le_of_ble_eq_true rfl, Nat.le_of_ble_eq_true rfl⟩) (xPreV mE_ok hE hK hA hP hD hS (q0 := 0) (ci := 2) rfl rfl rfl) rfl rfl hl.1 rfl (lv_room (Nat.le_of_ble_eq_true rfl)) dX2_fetch_261 ⟨Nat.le_of_ble_eq_true rfl, Nat.le_of_ble_eq_true rfl⟩) hD hS hA (fun r u H locs hp hP hD hS => ?_)
                      obtain ⟨rfl, hu9⟩ := hp
                      rw [hu9] at hP hD
                      refine x_ifne (tgt := 269) hx hb dX2_fetch_264 (by decide) (fun c_39 => ?_) (fun c_39 => ?_)
                      · have hr9 : ¬ gI (mRoom0 (mMiss (uI (uI σ 20 0) 20 0) k pr) sz9) 3 < mPin (mRoom0 (mMiss (uI (uI σ 20 0) 20 0) k pr) sz9) true + sz9 := by simpa using c_39
                        rw [if_neg hr9] at hP hD
                        refine lv_aload_n hx hb dX2_fetch_269 rfl (lv_at hl 1 rfl) ?_
                        refine m_get hx hb hts hi2 hown hK hP 5 (by decide) (List.mem_of_getElem? (i := 2) rfl) (v := .ref (ba 0)) rfl dX2_fetch_270 (fun _ h => h) ?_
                        refine lv_iload_n hx hb dX2_fetch_273 rfl (lv_at hl 2 rfl) ?_
                        refine lv_iconst (v := 1) hx hb dX2_fetch_274 (by decide) ?_
                        refine m_st0 (v := true) hx hb hK hP hD hS hk dX2_fetch_275 (fun H locs hP hD hS => ?_)
                        refine lv_aload_n hx hb dX2_fetch_276 rfl (lv_at hl 1 rfl) ?_
                        refine m_get hx hb hts hi2 hown hK hP 6 (by decide) (List.mem_of_getElem? (i := 16) rfl) (v := .ref (ba 1)) rfl dX2_fetch_277 (fun _ h => h) ?_
                        refine lv_iload_n hx hb dX2_fetch_280 rfl (lv_at hl 2 rfl) ?_
                        refine lv_iconst (v := 0) hx hb dX2_fetch_281 (by decide) ?_
                        refine m_st1 (v := false) hx hb hK hP hD hS hk dX2_fetch_282 (fun H locs hP hD hS => ?_)
                        refine lv_aload_n hx hb dX2_fetch_283 rfl (lv_at hl 1 rfl) ?_
                        refine m_get hx hb hts hi2 hown hK hP 7 (by decide) (List.mem_of_getElem? (i := 3) rfl) (v := .ref (ba 2)) rfl dX2_fetch_284 (fun _ h => h) ?_
                        refine lv_iload_n hx hb dX2_fetch_287 rfl (lv_at hl 2 rfl) ?_
                        refine lv_iload_n hx hb dX2_fetch_288 rfl (lv_at hl 3 rfl) ?_
                        refine m_st2 (v := sz9) hx hb hK hP hD hS hk dX2_fetch_289 (fun H locs hP hD hS => ?_)
                        refine lv_aload_n hx hb dX2_fetch_290 rfl (lv_at hl 1 rfl) ?_
                        refine m_get hx hb hts hi2 hown hK hP 8 (by decide) (List.mem_of_getElem? (i := 5) rfl) (v := .ref (ba 3)) rfl dX2_fetch_291 (fun _ h => h) ?_
                        refine lv_iload_n hx hb dX2_fetch_294 rfl (lv_at hl 2 rfl) ?_
                        refine lv_iload_n hx hb dX2_fetch_295 rfl (lv_at hl 4 rfl) ?_
                        refine m_st3 (v := pr) hx hb hK hP hD hS hk dX2_fetch_296 (fun H locs hP hD hS => ?_)
                        refine lv_aload_n hx hb dX2_fetch_297 rfl (lv_at hl 1 rfl) ?_
                        refine m_get hx hb hts hi2 hown hK hP 9 (by decide) (List.mem_of_getElem? (i := 4) rfl) (v := .ref (ba 4)) rfl dX2_fetch_298 (fun _ h => h) ?_
                        refine lv_iload_n hx hb dX2_fetch_301 rfl (lv_at hl 2 rfl) ?_
                        refine lv_iconst (v := 1) hx hb dX2_fetch_302 (by decide) ?_
                        refine m_st4 (v := 1) hx hb hK hP hD hS hk dX2_fetch_303 (fun H locs hP hD hS => ?_)
                        refine lv_aload_n hx hb dX2_fetch_304 rfl (lv_at hl 1 rfl) ?_
                        refine m_get hx hb hts hi2 hown hK hP 11 (by decide) (List.mem_of_getElem? (i := 17) rfl) (v := .ref (ba 6)) rfl dX2_fetch_305 (fun _ h => h) ?_
                        refine lv_iload_n hx hb dX2_fetch_308 rfl (lv_at hl 2 rfl) ?_
                        refine lv_aload_n hx hb dX2_fetch_309 rfl (lv_at hl 1 rfl) ?_
                        refine m_get hx hb hts hi2 hown hK hP 2 (by decide) (List.mem_of_getElem? (i := 10) rfl) (v := .int (gI (τ N) 1)) rfl dX2_fetch_310 (fun _ h => h) ?_
                        refine lv_iload hx hb dX2_fetch_313 (lv_at hl 5 rfl) ?_
                        refine lv_iadd hx hb dX2_fetch_315 ?_
                        refine m_st6 (v := ((gI (τ N) 1) + lf)) hx hb hK hP hD hS hk dX2_fetch_316 (fun H locs hP hD hS => ?_)
                        refine lv_aload_n hx hb dX2_fetch_317 rfl (lv_at hl 1 rfl) ?_
                        refine lv_iload_n hx hb dX2_fetch_318 rfl (lv_at hl 2 rfl) ?_
                        refine x_callv (va_runV (As := [.int (nI k)]) (rest := []) ⟨hx, hb, hml, hown, hts⟩ (k_X2_setWorth l D bx ba cI cJ cZ H.size (uS (uS (uS (uS (uB (uB (τ N) 1 k true) 2 k false) 3 k sz9) 9 k pr) 4 k 1) 5 k ((gI (τ N) 1) + lf)) hk (by have h9 := hz9; simp [gS, uS, uB, va_up, h9])) (cwV 1 hts gX2_fetch_X2_setWorth rfl rfl rfl (by decide +kernel) ⟨Nat.le_of_ble_eq_true rfl, Nat.le_of_ble_eq_true rfl⟩) (xPreV mE_ok hE hK hA hP hD hS (q0 := 0) (ci := 2) rfl rfl rfl) rfl rfl hl.1 rfl (lv_room (Nat.le_of_ble_eq_true rfl)) dX2_fetch_319 ⟨Nat.le_of_ble_eq_true rfl, Nat.le_of_ble_eq_true rfl⟩) hD hS hA (fun u H locs hp hP hD hS => ?_)
                        rw [hp] at hP hD
                        refine lv_iconst (v := 1) hx hb dX2_fetch_322 (by decide) ?_
                        exact x_iret hx hb hr hlocks hK (mSetW (uS (uS (uS (uS (uB (uB (τ N) 1 k true) 2 k false) 3 k sz9) 9 k pr) 4 k 1) 5 k ((gI (τ N) 1) + lf)) k) hP hD hS ⟨fun h9 => absurd h9 (by first | decide | (rw [hT]; decide)), fun j hj e9 => by rw [← nI_inj32 hk hj e9]; exact ⟨fun h9 => absurd (hok.symm.trans h9) (by decide), fun _ => by have e1 : mFetch (uI (uI σ 20 0) 20 0) k sz9 pr lf (τ N) = (1, mFill (τ N) k sz9 pr lf) := (by simp [mFetch, hh, eL, hr9, c_35, c_36]); rw [e1]; exact ⟨rfl, rfl⟩⟩⟩ dX2_fetch_323
                      · refine lv_iconst (v := 2) hx hb dX2_fetch_267 (by decide) ?_
                        have hr9 : gI (mRoom0 (mMiss (uI (uI σ 20 0) 20 0) k pr) sz9) 3 < mPin (mRoom0 (mMiss (uI (uI σ 20 0) 20 0) k pr) sz9) true + sz9 := by simpa using c_39
                        rw [if_pos hr9] at hP hD
                        exact x_iret hx hb hr hlocks hK (mRoom0 (mMiss (uI (uI σ 20 0) 20 0) k pr) sz9) hP hD hS ⟨fun h9 => absurd h9 (by first | decide | (rw [hT]; decide)), fun j hj e9 => by rw [← nI_inj32 hk hj e9]; exact ⟨fun h9 => absurd (hok.symm.trans h9) (by decide), fun _ => by simp [mFetch, hh, eL, hr9, c_35, c_36]⟩⟩ dX2_fetch_268
          refine lv_aload_n hx hb dX2_fetch_62 rfl (lv_at hl 0 rfl) ?_
          refine m_get hx hb hts hi2 hown hK hP 5 (by decide) (List.mem_of_getElem? (i := 2) rfl) (v := .ref (ba 0)) rfl dX2_fetch_63 (fun _ h => h) ?_
          refine lv_iload_n hx hb dX2_fetch_66 rfl (lv_at hl 1 rfl) ?_
          refine m_ld0 hx hb hK hP hk dX2_fetch_67 ?_
          refine W.eq (g2 := F0 m 68 ls [.int (bI (gB σ 1 k))]) rfl ?_
          refine x_ifeq (tgt := 145) hx hb dX2_fetch_68 (by decide) (fun c_40 => ?_) (fun c_40 => ?_)
          · exact B145 H locs ls (by show (gB σ 1 k && !ovr (uI (uI σ 20 0) 20 0) k && decide (gS σ 3 k = sz9)) = false; simp [c_40]) hP hD hS (lv_sub hl [0, 1, 2, 3, 4] rfl)
          · refine lv_aload_n hx hb dX2_fetch_71 rfl (lv_at hl 0 rfl) ?_
            refine lv_iload_n hx hb dX2_fetch_72 rfl (lv_at hl 1 rfl) ?_
            refine x_calli (va_runV (As := [.int (nI k)]) (rest := []) ⟨hx, hb, hml, hown, hts⟩ (k_X2_over l D bx ba cI cJ cZ H.size (uI (uI σ 20 0) 20 0) hk) (cwV 1 hts gX2_fetch_X2_over rfl rfl rfl (by decide +kernel) ⟨Nat.le_of_ble_eq_true rfl, Nat.le_of_ble_eq_true rfl⟩) (xPreV mE_ok hE hK hA hP hD hS (q0 := 0) (ci := 2) rfl rfl rfl) rfl rfl hl.1 rfl (lv_room (Nat.le_of_ble_eq_true rfl)) dX2_fetch_73 ⟨Nat.le_of_ble_eq_true rfl, Nat.le_of_ble_eq_true rfl⟩) hD hS hA (fun r u H locs hp hP hD hS => ?_)
            obtain ⟨rfl, hu9⟩ := hp
            rw [hu9] at hP hD
            refine x_ifne (tgt := 145) hx hb dX2_fetch_76 (by decide) (fun c_41 => ?_) (fun c_41 => ?_)
            · exact B145 H locs ls (by show (gB σ 1 k && !ovr (uI (uI σ 20 0) 20 0) k && decide (gS σ 3 k = sz9)) = false; simp [c_41]) hP hD hS (lv_sub hl [0, 1, 2, 3, 4] rfl)
            · refine lv_aload_n hx hb dX2_fetch_79 rfl (lv_at hl 0 rfl) ?_
              refine m_get hx hb hts hi2 hown hK hP 7 (by decide) (List.mem_of_getElem? (i := 3) rfl) (v := .ref (ba 2)) rfl dX2_fetch_80 (fun _ h => h) ?_
              refine lv_iload_n hx hb dX2_fetch_83 rfl (lv_at hl 1 rfl) ?_
              refine m_ld2 hx hb hK hP hk dX2_fetch_84 ?_
              refine W.eq (g2 := F0 m 85 ls [.int (gS σ 3 k)]) rfl ?_
              refine lv_iload_n hx hb dX2_fetch_85 rfl (lv_at hl 2 rfl) ?_
              refine lv_icmp_ne (tgt := 145) hx hb dX2_fetch_86 (by decide) (fun c_42 => ?_) (fun c_42 => ?_)
              · exact B145 H locs ls (by show (gB σ 1 k && !ovr (uI (uI σ 20 0) 20 0) k && decide (gS σ 3 k = sz9)) = false; simp [c_42]) hP hD hS (lv_sub hl [0, 1, 2, 3, 4] rfl)
              · refine lv_aload_n hx hb dX2_fetch_89 rfl (lv_at hl 0 rfl) ?_
                refine m_get hx hb hts hi2 hown hK hP 9 (by decide) (List.mem_of_getElem? (i := 4) rfl) (v := .ref (ba 4)) rfl dX2_fetch_90 (fun _ h => h) ?_
                refine lv_iload_n hx hb dX2_fetch_93 rfl (lv_at hl 1 rfl) ?_
                refine lv_dup2_11 hx hb dX2_fetch_94 rfl rfl ?_
                refine m_ld4 hx hb hK hP hk dX2_fetch_95 ?_
                refine W.eq (g2 := F0 m 96 ls [.int (gS σ 4 k), .int (nI k), .ref (ba 4)]) rfl ?_
                refine lv_iconst (v := 1) hx hb dX2_fetch_96 (by decide) ?_
                refine lv_iadd hx hb dX2_fetch_97 ?_
                refine m_st4 (v := ((gS σ 4 k) + 1)) hx hb hK hP hD hS hk dX2_fetch_98 (fun H locs hP hD hS => ?_)
                refine lv_aload_n hx hb dX2_fetch_99 rfl (lv_at hl 0 rfl) ?_
                refine m_get hx hb hts hi2 hown hK hP 8 (by decide) (List.mem_of_getElem? (i := 5) rfl) (v := .ref (ba 3)) rfl dX2_fetch_100 (fun _ h => h) ?_
                refine lv_iload_n hx hb dX2_fetch_103 rfl (lv_at hl 1 rfl) ?_
                refine lv_iload_n hx hb dX2_fetch_104 rfl (lv_at hl 3 rfl) ?_
                refine m_st3 (v := pr) hx hb hK hP hD hS hk dX2_fetch_105 (fun H locs hP hD hS => ?_)
                refine lv_aload_n hx hb dX2_fetch_106 rfl (lv_at hl 0 rfl) ?_
                refine lv_iload_n hx hb dX2_fetch_107 rfl (lv_at hl 1 rfl) ?_
                refine x_callv (va_runV (As := [.int (nI k)]) (rest := []) ⟨hx, hb, hml, hown, hts⟩ (k_X2_setWorth l D bx ba cI cJ cZ H.size (uS (uS (uI (uI σ 20 0) 20 0) 4 k ((gS σ 4 k) + 1)) 9 k pr) hk (show ¬ gS σ 3 k = 0 by rw [c_42]; exact hz9)) (cwV 1 hts gX2_fetch_X2_setWorth rfl rfl rfl (by decide +kernel) ⟨Nat.le_of_ble_eq_true rfl, Nat.le_of_ble_eq_true rfl⟩) (xPreV mE_ok hE hK hA hP hD hS (q0 := 0) (ci := 2) rfl rfl rfl) rfl rfl hl.1 rfl (lv_room (Nat.le_of_ble_eq_true rfl)) dX2_fetch_108 ⟨Nat.le_of_ble_eq_true rfl, Nat.le_of_ble_eq_true rfl⟩) hD hS hA (fun u H locs hp hP hD hS => ?_)
                rw [hp] at hP hD
                refine lv_aload_n hx hb dX2_fetch_111 rfl (lv_at hl 0 rfl) ?_
                refine lv_dup hx hb dX2_fetch_112 rfl ?_
                refine m_get hx hb hts hi2 hown hK hP 14 (by decide) (List.mem_of_getElem? (i := 6) rfl) (v := .int (gI (mSetW (uS (uS (uI (uI σ 20 0) 20 0) 4 k ((gS σ 4 k) + 1)) 9 k pr) k) 6)) rfl dX2_fetch_113 (fun _ h => h) ?_
                refine lv_iconst (v := 1) hx hb dX2_fetch_116 (by decide) ?_
                refine lv_iadd hx hb dX2_fetch_117 ?_
                refine m_put hx hb hts hi2 hown hK hP hD hS 14 (by decide) (List.mem_of_getElem? (i := 6) rfl) (v := .int ((gI (mSetW (uS (uS (uI (uI σ 20 0) 20 0) 4 k ((gS σ 4 k) + 1)) 9 k pr) k) 6) + 1)) (ty := .int) (uI (mSetW (uS (uS (uI (uI σ 20 0) 20 0) 4 k ((gS σ 4 k) + 1)) 9 k pr) k) 6 ((gI (mSetW (uS (uS (uI (uI σ 20 0) 20 0) 4 k ((gS σ 4 k) + 1)) 9 k pr) k) 6) + 1)) (mF_14 bx ba cI cJ cZ _ _) rfl (by decide +kernel) rfl rfl dX2_fetch_118 (fun _ h => h) (fun H locs hP hD hS => ?_)
                refine lv_aload_n hx hb dX2_fetch_121 rfl (lv_at hl 0 rfl) ?_
                refine lv_dup hx hb dX2_fetch_122 rfl ?_
                refine m_get hx hb hts hi2 hown hK hP 16 (by decide) (List.mem_of_getElem? (i := 7) rfl) (v := .long (gL (mSetW (uS (uS (uI (uI σ 20 0) 20 0) 4 k ((gS σ 4 k) + 1)) 9 k pr) k) 8)) rfl dX2_fetch_123 (fun _ h => h) ?_
                refine lv_iload_n hx hb dX2_fetch_126 rfl (lv_at hl 2 rfl) ?_
                refine lv_i2l (v := sz9.toInt64) hx hb dX2_fetch_127 rfl ?_
                refine lv_ladd hx hb dX2_fetch_128 ?_
                refine m_put hx hb hts hi2 hown hK hP hD hS 16 (by decide) (List.mem_of_getElem? (i := 7) rfl) (v := .long ((gL (mSetW (uS (uS (uI (uI σ 20 0) 20 0) 4 k ((gS σ 4 k) + 1)) 9 k pr) k) 8) + sz9.toInt64)) (ty := .long) (uL (uI (mSetW (uS (uS (uI (uI σ 20 0) 20 0) 4 k ((gS σ 4 k) + 1)) 9 k pr) k) 6 ((gI (mSetW (uS (uS (uI (uI σ 20 0) 20 0) 4 k ((gS σ 4 k) + 1)) 9 k pr) k) 6) + 1)) 8 ((gL (mSetW (uS (uS (uI (uI σ 20 0) 20 0) 4 k ((gS σ 4 k) + 1)) 9 k pr) k) 8) + sz9.toInt64)) (mF_16 bx ba cI cJ cZ _ _) rfl (by decide +kernel) rfl rfl dX2_fetch_129 (fun _ h => h) (fun H locs hP hD hS => ?_)
                refine lv_aload_n hx hb dX2_fetch_132 rfl (lv_at hl 0 rfl) ?_
                refine lv_dup hx hb dX2_fetch_133 rfl ?_
                refine m_get hx hb hts hi2 hown hK hP 17 (by decide) (List.mem_of_getElem? (i := 8) rfl) (v := .long (gL (mSetW (uS (uS (uI (uI σ 20 0) 20 0) 4 k ((gS σ 4 k) + 1)) 9 k pr) k) 9)) rfl dX2_fetch_134 (fun _ h => h) ?_
                refine lv_iload_n hx hb dX2_fetch_137 rfl (lv_at hl 3 rfl) ?_
                refine lv_i2l (v := pr.toInt64) hx hb dX2_fetch_138 rfl ?_
                refine lv_ladd hx hb dX2_fetch_139 ?_
                refine m_put hx hb hts hi2 hown hK hP hD hS 17 (by decide) (List.mem_of_getElem? (i := 8) rfl) (v := .long ((gL (mSetW (uS (uS (uI (uI σ 20 0) 20 0) 4 k ((gS σ 4 k) + 1)) 9 k pr) k) 9) + pr.toInt64)) (ty := .long) (uL (uL (uI (mSetW (uS (uS (uI (uI σ 20 0) 20 0) 4 k ((gS σ 4 k) + 1)) 9 k pr) k) 6 ((gI (mSetW (uS (uS (uI (uI σ 20 0) 20 0) 4 k ((gS σ 4 k) + 1)) 9 k pr) k) 6) + 1)) 8 ((gL (mSetW (uS (uS (uI (uI σ 20 0) 20 0) 4 k ((gS σ 4 k) + 1)) 9 k pr) k) 8) + sz9.toInt64)) 9 ((gL (mSetW (uS (uS (uI (uI σ 20 0) 20 0) 4 k ((gS σ 4 k) + 1)) 9 k pr) k) 9) + pr.toInt64)) (mF_17 bx ba cI cJ cZ _ _) rfl (by decide +kernel) rfl rfl dX2_fetch_140 (fun _ h => h) (fun H locs hP hD hS => ?_)
                refine lv_iconst (v := 0) hx hb dX2_fetch_143 (by decide) ?_
                exact x_iret hx hb hr hlocks hK (uL (uL (uI (mSetW (uS (uS (uI (uI σ 20 0) 20 0) 4 k ((gS σ 4 k) + 1)) 9 k pr) k) 6 ((gI (mSetW (uS (uS (uI (uI σ 20 0) 20 0) 4 k ((gS σ 4 k) + 1)) 9 k pr) k) 6) + 1)) 8 ((gL (mSetW (uS (uS (uI (uI σ 20 0) 20 0) 4 k ((gS σ 4 k) + 1)) 9 k pr) k) 8) + sz9.toInt64)) 9 ((gL (mSetW (uS (uS (uI (uI σ 20 0) 20 0) 4 k ((gS σ 4 k) + 1)) 9 k pr) k) 9) + pr.toInt64)) hP hD hS ⟨fun h9 => absurd h9 (by first | decide | (rw [hT]; decide)), fun j hj e9 => by rw [← nI_inj32 hk hj e9]; exact ⟨fun h9 => absurd (hok.symm.trans h9) (by decide), fun _ => by have hh : (gB (uI (uI σ 20 0) 20 0) 1 k && !ovr (uI (uI σ 20 0) 20 0) k && decide (gS (uI (uI σ 20 0) 20 0) 3 k = sz9)) = true := (by show (gB σ 1 k && !ovr (uI (uI σ 20 0) 20 0) k && decide (gS σ 3 k = sz9)) = true; simp [c_40, c_41, c_42]); rw [mFetch, if_pos hh]; exact ⟨rfl, rfl⟩⟩⟩ dX2_fetch_144
  · rw [if_neg (show ¬ isT t = true by rw [c_1]; decide)] at hP hD
    have hT := c_1
    refine lv_iconst (v := 0) hx hb dX2_fetch_8 (by decide) ?_
    exact x_iret hx hb hr hlocks hK (uI σ 20 1) hP hD hS ⟨fun _ => ⟨rfl, rfl⟩, fun j hj e9 => (isT_ff hT hj e9).elim⟩ dX2_fetch_9
