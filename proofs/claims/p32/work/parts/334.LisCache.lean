theorem oI_lt {r : Option Nat} (h : ∀ k, r = some k → k < 32) : oI r < 0 ↔ r = none := by
  cases r with
  | none => exact ⟨fun _ => rfl, fun _ => (by decide : (-1 : Int32) < 0)⟩
  | some k =>
    refine ⟨fun q => ?_, fun q => by cases q⟩
    have q : nI k < 0 := q
    exact absurd q (nI_pos (Nat.lt_trans (h k rfl) (by decide)))
theorem sz_in {n : Nat} (h : 1 ≤ n ∧ n ≤ 1000) : inR (nI n) 1 1000 = true := by
  have e : (nI n).toInt = (n : Int) := nI_toInt (by omega)
  have e1 : (1 : Int32).toInt = 1 := by decide
  have e2 : (1000 : Int32).toInt = 1000 := by decide
  have h1 : ¬ nI n < 1 := by rw [Int32.lt_iff_toInt_lt]; omega
  have h2 : ¬ (1000 : Int32) < nI n := by rw [Int32.lt_iff_toInt_lt]; omega
  unfold inR
  rw [decide_eq_false h1, decide_eq_false h2]
  rfl
theorem ends_oI {n : Nat} {σ : St} (h : V n σ) : oI (efR σ 32) = cEnds σ := by
  unfold cEnds
  generalize e : efR σ 32 = o
  cases o with
  | none => rfl
  | some k => exact (h.2.2.2.2.2 k (efR_lt σ 32 k e)).symm
set_option maxHeartbeats 4000000 in
set_option maxRecDepth 100000 in
theorem k_L_isCache (l : Launch) (D : va_G) (be : Nat → Nat) (cI cJ : ClassId) (ax ar : Nat) (ad : Nat → Nat) (cO : ClassId) (sz : Nat) (σ : St) (ρ : Nat → Int32) (γ : Nat) (a : Nat) (ha : a < 2 ^ 31) (n8 : Nat) (hV9 : V n8 σ) (L9 : List Nat) (hR9 : Row ρ γ L9) (hS9 : SR σ (inO σ) L9) (hfl : l.stackTraces = false) : Met l yL_isCache wsL_isCache ({ frames := 10, cells := 257, slots := 1542, locals := 220 } : Room) (va_Pc [.ref ax, .ref (be 0), .ref (be 1), .ref (be 2), .ref (be 3), .ref (be 5), .ref (be 6), .ref (be 7), .ref (be 8), .int (nI a)] (xPre D (tX cI cJ (cT cO)) xE (lX be cI cJ (cW ax ar ad cO σ)) (σ, ρ, γ) sz)) (va_Qi (fun (r : Int32) (u : LSt) => r = 1 ∧ u = (σ, ρ, γ)) (xB D (tX cI cJ (cT cO)) (lX be cI cJ (cW ax ar ad cO σ)) (va_A (lX be cI cJ (cW ax ar ad cO σ) (σ, ρ, γ)) sz)) (va_A (lX be cI cJ (cW ax ar ad cO σ) (σ, ρ, γ)) sz)) 257 1542 (va_A (lX be cI cJ (cW ax ar ad cO σ) (σ, ρ, γ)) sz) := by
  refine xOpen (w := (lX be cI cJ (cW ax ar ad cO σ))) (σ := (σ, ρ, γ)) (cc := cL_isCache) (maxL := 17) (ret := some .boolean) (QQ := fun A => va_Qi (fun (r : Int32) (u : LSt) => r = 1 ∧ u = (σ, ρ, γ)) (xB D (tX cI cJ (cT cO)) (lX be cI cJ (cW ax ar ad cO σ)) A) A) (by decide) rfl (Nat.le_of_ble_eq_true rfl) ?_
  intro p e s m below meth c A hx hb hr hml hown hts hlocks hname hK hE hA hP hD hS ls hl
  have hl : lv_has ls 17 [(0, .ref ax), (1, .ref (be 0)), (2, .ref (be 1)), (3, .ref (be 2)), (4, .ref (be 3)), (5, .ref (be 5)), (6, .ref (be 6)), (7, .ref (be 7)), (8, .ref (be 8)), (9, .int (nI a))] := hl
  have hown : s.vm.findClass RL = some m.cls := hown
  have hKc : va_K D vwCl (cT cO) s := hK.sub [2] rfl
  have hO := hV9.ord
  have hlen := sr_len hS9
  have hγ := hR9.1
  generalize hH : s.heap = H at hP
  have hS : va_S A s.heap H [] := by rw [← hH]; exact va_S.rf
  generalize hlo : ([] : List Loc) = locs at hS
  refine lv_iconst (v := 0) hx hb dL_isCache_0 (by decide) ?_
  refine lv_istore (lv' := [(10, .int 0), (0, .ref ax), (1, .ref (be 0)), (2, .ref (be 1)), (3, .ref (be 2)), (4, .ref (be 3)), (5, .ref (be 5)), (6, .ref (be 6)), (7, .ref (be 7)), (8, .ref (be 8)), (9, .int (nI a))]) hx hb dL_isCache_1 hl (by decide) rfl (fun ls hl => ?_)
  refine lv_iconst (v := (-1)) hx hb dL_isCache_3 (by decide) ?_
  refine lv_istore (lv' := [(11, .int (-1)), (10, .int 0), (0, .ref ax), (1, .ref (be 0)), (2, .ref (be 1)), (3, .ref (be 2)), (4, .ref (be 3)), (5, .ref (be 5)), (6, .ref (be 6)), (7, .ref (be 7)), (8, .ref (be 8)), (9, .int (nI a))]) hx hb dL_isCache_4 hl (by decide) rfl (fun ls hl => ?_)
  refine lv_aload_n hx hb dL_isCache_6 rfl (lv_at hl 2 rfl) ?_
  have hP := P_c (a := lW be cI cJ (σ, ρ, γ)) (b := (cW ax ar ad cO σ)) hP
  have hD := D_c (a := lW be cI cJ (σ, ρ, γ)) (b := (cW ax ar ad cO σ)) hD
  refine f_calli (va_runV (As := []) (rest := []) ⟨hx, hb, hml, hown, hts⟩ (k_X1_time l D ax ar ad cO H.size σ) (cwV 0 hts gL_isCache_X1_time rfl rfl rfl (by decide +kernel) ⟨Nat.le_of_ble_eq_true rfl, Nat.le_of_ble_eq_true rfl⟩) (xPreV xE_ok hE hKc hA (P_l hP) (D_l hD) hS (q0 := 0) (ci := 1) rfl rfl rfl) rfl rfl hl.1 rfl (lv_room (Nat.le_of_ble_eq_true rfl)) dL_isCache_7 ⟨Nat.le_of_ble_eq_true rfl, Nat.le_of_ble_eq_true rfl⟩) hP hD hS hA (fun r u H locs hp hP hD hS => ?_)
  obtain ⟨rfl, hu9⟩ := hp
  rw [hu9] at hP hD
  have hP : va_P D vwCl (lX be cI cJ (cW ax ar ad cO σ) (σ, ρ, γ)) H := P_c hP
  have hD : va_D A (lX be cI cJ (cW ax ar ad cO σ) (σ, ρ, γ)) := D_c hD
  refine lv_aload hx hb dL_isCache_10 (lv_at hl 8 rfl) ?_
  refine lv_iconst (v := 0) hx hb dL_isCache_12 (by decide) ?_
  refine l_ld6 hx hb hK hP (k := 0) (by decide) (v := gI σ 1) rfl dL_isCache_13 ?_
  refine lv_icmp_ne (tgt := 137) hx hb dL_isCache_14 (by decide) (fun c9 => absurd (rfl) c9) (fun _ => ?_)
  refine lv_aload_n hx hb dL_isCache_17 rfl (lv_at hl 2 rfl) ?_
  have hP := P_c (a := lW be cI cJ (σ, ρ, γ)) (b := (cW ax ar ad cO σ)) hP
  have hD := D_c (a := lW be cI cJ (σ, ρ, γ)) (b := (cW ax ar ad cO σ)) hD
  refine f_calli (va_runV (As := []) (rest := []) ⟨hx, hb, hml, hown, hts⟩ (k_X1_capacity l D ax ar ad cO H.size σ) (cwV 0 hts gL_isCache_X1_capacity rfl rfl rfl (by decide +kernel) ⟨Nat.le_of_ble_eq_true rfl, Nat.le_of_ble_eq_true rfl⟩) (xPreV xE_ok hE hKc hA (P_l hP) (D_l hD) hS (q0 := 0) (ci := 1) rfl rfl rfl) rfl rfl hl.1 rfl (lv_room (Nat.le_of_ble_eq_true rfl)) dL_isCache_18 ⟨Nat.le_of_ble_eq_true rfl, Nat.le_of_ble_eq_true rfl⟩) hP hD hS hA (fun r u H locs hp hP hD hS => ?_)
  obtain ⟨rfl, hu9⟩ := hp
  rw [hu9] at hP hD
  have hP : va_P D vwCl (lX be cI cJ (cW ax ar ad cO σ) (σ, ρ, γ)) H := P_c hP
  have hD : va_D A (lX be cI cJ (cW ax ar ad cO σ) (σ, ρ, γ)) := D_c hD
  refine lv_aload hx hb dL_isCache_21 (lv_at hl 8 rfl) ?_
  refine lv_iconst (v := 1) hx hb dL_isCache_23 (by decide) ?_
  refine l_ld6 hx hb hK hP (k := 1) (by decide) (v := gI σ 3) rfl dL_isCache_24 ?_
  refine lv_icmp_ne (tgt := 137) hx hb dL_isCache_25 (by decide) (fun c9 => absurd (rfl) c9) (fun _ => ?_)
  refine lv_aload_n hx hb dL_isCache_28 rfl (lv_at hl 2 rfl) ?_
  have hP := P_c (a := lW be cI cJ (σ, ρ, γ)) (b := (cW ax ar ad cO σ)) hP
  have hD := D_c (a := lW be cI cJ (σ, ρ, γ)) (b := (cW ax ar ad cO σ)) hD
  refine f_calli (va_runV (As := []) (rest := []) ⟨hx, hb, hml, hown, hts⟩ (k_X1_hits l D ax ar ad cO H.size σ) (cwV 0 hts gL_isCache_X1_hits rfl rfl rfl (by decide +kernel) ⟨Nat.le_of_ble_eq_true rfl, Nat.le_of_ble_eq_true rfl⟩) (xPreV xE_ok hE hKc hA (P_l hP) (D_l hD) hS (q0 := 0) (ci := 1) rfl rfl rfl) rfl rfl hl.1 rfl (lv_room (Nat.le_of_ble_eq_true rfl)) dL_isCache_29 ⟨Nat.le_of_ble_eq_true rfl, Nat.le_of_ble_eq_true rfl⟩) hP hD hS hA (fun r u H locs hp hP hD hS => ?_)
  obtain ⟨rfl, hu9⟩ := hp
  rw [hu9] at hP hD
  have hP : va_P D vwCl (lX be cI cJ (cW ax ar ad cO σ) (σ, ρ, γ)) H := P_c hP
  have hD : va_D A (lX be cI cJ (cW ax ar ad cO σ) (σ, ρ, γ)) := D_c hD
  refine lv_aload hx hb dL_isCache_32 (lv_at hl 8 rfl) ?_
  refine lv_iconst (v := 4) hx hb dL_isCache_34 (by decide) ?_
  refine l_ld6 hx hb hK hP (k := 4) (by decide) (v := gI σ 6) rfl dL_isCache_35 ?_
  refine lv_icmp_ne (tgt := 137) hx hb dL_isCache_36 (by decide) (fun c9 => absurd (rfl) c9) (fun _ => ?_)
  refine lv_aload_n hx hb dL_isCache_39 rfl (lv_at hl 2 rfl) ?_
  have hP := P_c (a := lW be cI cJ (σ, ρ, γ)) (b := (cW ax ar ad cO σ)) hP
  have hD := D_c (a := lW be cI cJ (σ, ρ, γ)) (b := (cW ax ar ad cO σ)) hD
  refine f_calli (va_runV (As := []) (rest := []) ⟨hx, hb, hml, hown, hts⟩ (k_X1_misses l D ax ar ad cO H.size σ) (cwV 0 hts gL_isCache_X1_misses rfl rfl rfl (by decide +kernel) ⟨Nat.le_of_ble_eq_true rfl, Nat.le_of_ble_eq_true rfl⟩) (xPreV xE_ok hE hKc hA (P_l hP) (D_l hD) hS (q0 := 0) (ci := 1) rfl rfl rfl) rfl rfl hl.1 rfl (lv_room (Nat.le_of_ble_eq_true rfl)) dL_isCache_40 ⟨Nat.le_of_ble_eq_true rfl, Nat.le_of_ble_eq_true rfl⟩) hP hD hS hA (fun r u H locs hp hP hD hS => ?_)
  obtain ⟨rfl, hu9⟩ := hp
  rw [hu9] at hP hD
  have hP : va_P D vwCl (lX be cI cJ (cW ax ar ad cO σ) (σ, ρ, γ)) H := P_c hP
  have hD : va_D A (lX be cI cJ (cW ax ar ad cO σ) (σ, ρ, γ)) := D_c hD
  refine lv_aload hx hb dL_isCache_43 (lv_at hl 8 rfl) ?_
  refine lv_iconst (v := 5) hx hb dL_isCache_45 (by decide) ?_
  refine l_ld6 hx hb hK hP (k := 5) (by decide) (v := gI σ 7) rfl dL_isCache_46 ?_
  refine lv_icmp_ne (tgt := 137) hx hb dL_isCache_47 (by decide) (fun c9 => absurd (rfl) c9) (fun _ => ?_)
  refine lv_aload_n hx hb dL_isCache_50 rfl (lv_at hl 2 rfl) ?_
  have hP := P_c (a := lW be cI cJ (σ, ρ, γ)) (b := (cW ax ar ad cO σ)) hP
  have hD := D_c (a := lW be cI cJ (σ, ρ, γ)) (b := (cW ax ar ad cO σ)) hD
  refine f_calli (va_runV (As := []) (rest := []) ⟨hx, hb, hml, hown, hts⟩ (k_X1_left l D ax ar ad cO H.size σ) (cwV 0 hts gL_isCache_X1_left rfl rfl rfl (by decide +kernel) ⟨Nat.le_of_ble_eq_true rfl, Nat.le_of_ble_eq_true rfl⟩) (xPreV xE_ok hE hKc hA (P_l hP) (D_l hD) hS (q0 := 0) (ci := 1) rfl rfl rfl) rfl rfl hl.1 rfl (lv_room (Nat.le_of_ble_eq_true rfl)) dL_isCache_51 ⟨Nat.le_of_ble_eq_true rfl, Nat.le_of_ble_eq_true rfl⟩) hP hD hS hA (fun r u H locs hp hP hD hS => ?_)
  obtain ⟨rfl, hu9⟩ := hp
  rw [hu9] at hP hD
  have hP : va_P D vwCl (lX be cI cJ (cW ax ar ad cO σ) (σ, ρ, γ)) H := P_c hP
  have hD : va_D A (lX be cI cJ (cW ax ar ad cO σ) (σ, ρ, γ)) := D_c hD
  refine lv_aload hx hb dL_isCache_54 (lv_at hl 8 rfl) ?_
  refine lv_bipush (v := 6) hx hb dL_isCache_56 (by decide) ?_
  refine l_ld6 hx hb hK hP (k := 6) (by decide) (v := gI σ 11) rfl dL_isCache_58 ?_
  refine lv_icmp_ne (tgt := 137) hx hb dL_isCache_59 (by decide) (fun c9 => absurd (rfl) c9) (fun _ => ?_)
  refine lv_aload_n hx hb dL_isCache_62 rfl (lv_at hl 2 rfl) ?_
  have hP := P_c (a := lW be cI cJ (σ, ρ, γ)) (b := (cW ax ar ad cO σ)) hP
  have hD := D_c (a := lW be cI cJ (σ, ρ, γ)) (b := (cW ax ar ad cO σ)) hD
  refine f_calli (va_runV (As := []) (rest := []) ⟨hx, hb, hml, hown, hts⟩ (k_X1_removedOver l D ax ar ad cO H.size σ) (cwV 0 hts gL_isCache_X1_removedOver rfl rfl rfl (by decide +kernel) ⟨Nat.le_of_ble_eq_true rfl, Nat.le_of_ble_eq_true rfl⟩) (xPreV xE_ok hE hKc hA (P_l hP) (D_l hD) hS (q0 := 0) (ci := 1) rfl rfl rfl) rfl rfl hl.1 rfl (lv_room (Nat.le_of_ble_eq_true rfl)) dL_isCache_63 ⟨Nat.le_of_ble_eq_true rfl, Nat.le_of_ble_eq_true rfl⟩) hP hD hS hA (fun r u H locs hp hP hD hS => ?_)
  obtain ⟨rfl, hu9⟩ := hp
  rw [hu9] at hP hD
  have hP : va_P D vwCl (lX be cI cJ (cW ax ar ad cO σ) (σ, ρ, γ)) H := P_c hP
  have hD : va_D A (lX be cI cJ (cW ax ar ad cO σ) (σ, ρ, γ)) := D_c hD
  refine lv_aload hx hb dL_isCache_66 (lv_at hl 8 rfl) ?_
  refine lv_bipush (v := 7) hx hb dL_isCache_68 (by decide) ?_
  refine l_ld6 hx hb hK hP (k := 7) (by decide) (v := gI σ 12) rfl dL_isCache_70 ?_
  refine lv_icmp_ne (tgt := 137) hx hb dL_isCache_71 (by decide) (fun c9 => absurd (rfl) c9) (fun _ => ?_)
  refine lv_aload_n hx hb dL_isCache_74 rfl (lv_at hl 2 rfl) ?_
  have hP := P_c (a := lW be cI cJ (σ, ρ, γ)) (b := (cW ax ar ad cO σ)) hP
  have hD := D_c (a := lW be cI cJ (σ, ρ, γ)) (b := (cW ax ar ad cO σ)) hD
  refine f_calll (va_runV (As := []) (rest := []) ⟨hx, hb, hml, hown, hts⟩ (k_X1_clock l D ax ar ad cO H.size σ) (cwV 0 hts gL_isCache_X1_clock rfl rfl rfl (by decide +kernel) ⟨Nat.le_of_ble_eq_true rfl, Nat.le_of_ble_eq_true rfl⟩) (xPreV xE_ok hE hKc hA (P_l hP) (D_l hD) hS (q0 := 0) (ci := 1) rfl rfl rfl) rfl rfl hl.1 rfl (lv_room (Nat.le_of_ble_eq_true rfl)) dL_isCache_75 ⟨Nat.le_of_ble_eq_true rfl, Nat.le_of_ble_eq_true rfl⟩) hP hD hS hA (fun r u H locs hp hP hD hS => ?_)
  obtain ⟨rfl, hu9⟩ := hp
  rw [hu9] at hP hD
  have hP : va_P D vwCl (lX be cI cJ (cW ax ar ad cO σ) (σ, ρ, γ)) H := P_c hP
  have hD : va_D A (lX be cI cJ (cW ax ar ad cO σ) (σ, ρ, γ)) := D_c hD
  refine lv_aload hx hb dL_isCache_78 (lv_at hl 10 rfl) ?_
  refine lv_iconst (v := 0) hx hb dL_isCache_80 (by decide) ?_
  refine l_ld8 hx hb hK hP (k := 0) (by decide) (v := gL σ 2) rfl dL_isCache_81 ?_
  refine x_ne (tgt := 137) hx hb dL_isCache_82 dL_isCache_83 (by decide) (fun c9 => absurd rfl c9) (fun _ => ?_)
  refine lv_aload_n hx hb dL_isCache_86 rfl (lv_at hl 2 rfl) ?_
  have hP := P_c (a := lW be cI cJ (σ, ρ, γ)) (b := (cW ax ar ad cO σ)) hP
  have hD := D_c (a := lW be cI cJ (σ, ρ, γ)) (b := (cW ax ar ad cO σ)) hD
  refine f_calll (va_runV (As := []) (rest := []) ⟨hx, hb, hml, hown, hts⟩ (k_X1_bytesHit l D ax ar ad cO H.size σ) (cwV 0 hts gL_isCache_X1_bytesHit rfl rfl rfl (by decide +kernel) ⟨Nat.le_of_ble_eq_true rfl, Nat.le_of_ble_eq_true rfl⟩) (xPreV xE_ok hE hKc hA (P_l hP) (D_l hD) hS (q0 := 0) (ci := 1) rfl rfl rfl) rfl rfl hl.1 rfl (lv_room (Nat.le_of_ble_eq_true rfl)) dL_isCache_87 ⟨Nat.le_of_ble_eq_true rfl, Nat.le_of_ble_eq_true rfl⟩) hP hD hS hA (fun r u H locs hp hP hD hS => ?_)
  obtain ⟨rfl, hu9⟩ := hp
  rw [hu9] at hP hD
  have hP : va_P D vwCl (lX be cI cJ (cW ax ar ad cO σ) (σ, ρ, γ)) H := P_c hP
  have hD : va_D A (lX be cI cJ (cW ax ar ad cO σ) (σ, ρ, γ)) := D_c hD
  refine lv_aload hx hb dL_isCache_90 (lv_at hl 10 rfl) ?_
  refine lv_iconst (v := 1) hx hb dL_isCache_92 (by decide) ?_
  refine l_ld8 hx hb hK hP (k := 1) (by decide) (v := gL σ 8) rfl dL_isCache_93 ?_
  refine x_ne (tgt := 137) hx hb dL_isCache_94 dL_isCache_95 (by decide) (fun c9 => absurd rfl c9) (fun _ => ?_)
  refine lv_aload_n hx hb dL_isCache_98 rfl (lv_at hl 2 rfl) ?_
  have hP := P_c (a := lW be cI cJ (σ, ρ, γ)) (b := (cW ax ar ad cO σ)) hP
  have hD := D_c (a := lW be cI cJ (σ, ρ, γ)) (b := (cW ax ar ad cO σ)) hD
  refine f_calll (va_runV (As := []) (rest := []) ⟨hx, hb, hml, hown, hts⟩ (k_X1_saved l D ax ar ad cO H.size σ) (cwV 0 hts gL_isCache_X1_saved rfl rfl rfl (by decide +kernel) ⟨Nat.le_of_ble_eq_true rfl, Nat.le_of_ble_eq_true rfl⟩) (xPreV xE_ok hE hKc hA (P_l hP) (D_l hD) hS (q0 := 0) (ci := 1) rfl rfl rfl) rfl rfl hl.1 rfl (lv_room (Nat.le_of_ble_eq_true rfl)) dL_isCache_99 ⟨Nat.le_of_ble_eq_true rfl, Nat.le_of_ble_eq_true rfl⟩) hP hD hS hA (fun r u H locs hp hP hD hS => ?_)
  obtain ⟨rfl, hu9⟩ := hp
  rw [hu9] at hP hD
  have hP : va_P D vwCl (lX be cI cJ (cW ax ar ad cO σ) (σ, ρ, γ)) H := P_c hP
  have hD : va_D A (lX be cI cJ (cW ax ar ad cO σ) (σ, ρ, γ)) := D_c hD
  refine lv_aload hx hb dL_isCache_102 (lv_at hl 10 rfl) ?_
  refine lv_iconst (v := 2) hx hb dL_isCache_104 (by decide) ?_
  refine l_ld8 hx hb hK hP (k := 2) (by decide) (v := gL σ 9) rfl dL_isCache_105 ?_
  refine x_ne (tgt := 137) hx hb dL_isCache_106 dL_isCache_107 (by decide) (fun c9 => absurd rfl c9) (fun _ => ?_)
  refine lv_aload_n hx hb dL_isCache_110 rfl (lv_at hl 2 rfl) ?_
  have hP := P_c (a := lW be cI cJ (σ, ρ, γ)) (b := (cW ax ar ad cO σ)) hP
  have hD := D_c (a := lW be cI cJ (σ, ρ, γ)) (b := (cW ax ar ad cO σ)) hD
  refine f_calll (va_runV (As := []) (rest := []) ⟨hx, hb, hml, hown, hts⟩ (k_X1_paid l D ax ar ad cO H.size σ) (cwV 0 hts gL_isCache_X1_paid rfl rfl rfl (by decide +kernel) ⟨Nat.le_of_ble_eq_true rfl, Nat.le_of_ble_eq_true rfl⟩) (xPreV xE_ok hE hKc hA (P_l hP) (D_l hD) hS (q0 := 0) (ci := 1) rfl rfl rfl) rfl rfl hl.1 rfl (lv_room (Nat.le_of_ble_eq_true rfl)) dL_isCache_111 ⟨Nat.le_of_ble_eq_true rfl, Nat.le_of_ble_eq_true rfl⟩) hP hD hS hA (fun r u H locs hp hP hD hS => ?_)
  obtain ⟨rfl, hu9⟩ := hp
  rw [hu9] at hP hD
  have hP : va_P D vwCl (lX be cI cJ (cW ax ar ad cO σ) (σ, ρ, γ)) H := P_c hP
  have hD : va_D A (lX be cI cJ (cW ax ar ad cO σ) (σ, ρ, γ)) := D_c hD
  refine lv_aload hx hb dL_isCache_114 (lv_at hl 10 rfl) ?_
  refine lv_iconst (v := 3) hx hb dL_isCache_116 (by decide) ?_
  refine l_ld8 hx hb hK hP (k := 3) (by decide) (v := gL σ 10) rfl dL_isCache_117 ?_
  refine x_ne (tgt := 137) hx hb dL_isCache_118 dL_isCache_119 (by decide) (fun c9 => absurd rfl c9) (fun _ => ?_)
  refine lv_aload_n hx hb dL_isCache_122 rfl (lv_at hl 2 rfl) ?_
  have hP := P_c (a := lW be cI cJ (σ, ρ, γ)) (b := (cW ax ar ad cO σ)) hP
  have hD := D_c (a := lW be cI cJ (σ, ρ, γ)) (b := (cW ax ar ad cO σ)) hD
  refine f_calli (va_runV (As := []) (rest := []) ⟨hx, hb, hml, hown, hts⟩ (k_X1_used l D ax ar ad cO H.size σ) (cwV 0 hts gL_isCache_X1_used rfl rfl rfl (by decide +kernel) ⟨Nat.le_of_ble_eq_true rfl, Nat.le_of_ble_eq_true rfl⟩) (xPreV xE_ok hE hKc hA (P_l hP) (D_l hD) hS (q0 := 0) (ci := 1) rfl rfl rfl) rfl rfl hl.1 rfl (lv_room (Nat.le_of_ble_eq_true rfl)) dL_isCache_123 ⟨Nat.le_of_ble_eq_true rfl, Nat.le_of_ble_eq_true rfl⟩) hP hD hS hA (fun r u H locs hp hP hD hS => ?_)
  obtain ⟨rfl, hu9⟩ := hp
  rw [hu9] at hP hD
  have hP : va_P D vwCl (lX be cI cJ (cW ax ar ad cO σ) (σ, ρ, γ)) H := P_c hP
  have hD : va_D A (lX be cI cJ (cW ax ar ad cO σ) (σ, ρ, γ)) := D_c hD
  refine lv_aload_n hx hb dL_isCache_126 rfl (lv_at hl 3 rfl) ?_
  refine x_calli (va_runS (As := [.ref (be 0)]) (rest := [.int (used σ)]) ⟨hx, hb, hml, hown, hts⟩ (k_L_used l D be cI cJ (cW ax ar ad cO σ) (cT cO) H.size σ ρ γ) (va_cwS 1 hts gL_isCache_L_used rfl rfl rfl (by decide +kernel) ⟨Nat.le_of_ble_eq_true rfl, Nat.le_of_ble_eq_true rfl⟩) (xPreS mE_ok trivial hK hA hP hD hS) rfl rfl hl.1 rfl (lv_room (Nat.le_of_ble_eq_true rfl)) dL_isCache_127 ⟨Nat.le_of_ble_eq_true rfl, Nat.le_of_ble_eq_true rfl⟩) hD hS hA (fun r u H locs hp hP hD hS => ?_)
  obtain ⟨rfl, hu9⟩ := hp
  rw [hu9] at hP hD
  refine lv_icmp_ne (tgt := 137) hx hb dL_isCache_130 (by decide) (fun c9 => absurd (rfl) c9) (fun _ => ?_)
  refine lv_iconst (v := 1) hx hb dL_isCache_133 (by decide) ?_
  refine lv_goto (tgt := 138) hx hb dL_isCache_134 (by decide) ?_
  refine lv_istore (lv' := [(12, .int 1), (11, .int (-1)), (10, .int 0), (0, .ref ax), (1, .ref (be 0)), (2, .ref (be 1)), (3, .ref (be 2)), (4, .ref (be 3)), (5, .ref (be 5)), (6, .ref (be 6)), (7, .ref (be 7)), (8, .ref (be 8)), (9, .int (nI a))]) hx hb dL_isCache_138 hl (by decide) rfl (fun ls hl => ?_)
  refine lv_iconst (v := 0) hx hb dL_isCache_140 (by decide) ?_
  refine lv_istore (lv' := [(13, .int 0), (12, .int 1), (11, .int (-1)), (10, .int 0), (0, .ref ax), (1, .ref (be 0)), (2, .ref (be 1)), (3, .ref (be 2)), (4, .ref (be 3)), (5, .ref (be 5)), (6, .ref (be 6)), (7, .ref (be 7)), (8, .ref (be 8)), (9, .int (nI a))]) hx hb dL_isCache_141 hl (by decide) rfl (fun ls hl => ?_)
  have loop : ∀ (n : Nat) (i : Nat) (ls : Array Slot) (H : Heap) (locs : List Loc), 32 - i < n → i ≤ 32 → va_P D vwCl (lX be cI cJ (cW ax ar ad cO σ) (σ, ρ, γ)) H → va_D A (lX be cI cJ (cW ax ar ad cO σ) (σ, ρ, γ)) → va_S A s.heap H locs → lv_has ls 17 [(0, .ref ax), (1, .ref (be 0)), (2, .ref (be 1)), (3, .ref (be 2)), (4, .ref (be 3)), (5, .ref (be 5)), (6, .ref (be 6)), (7, .ref (be 7)), (8, .ref (be 8)), (9, .int (nI a)), (10, .int (sumI (eF σ) i)), (11, .int (oI (efR σ i))), (12, .int 1), (13, .int (nI i))] → W p l e (headSpec wsL_isCache ({ frames := 10, cells := 257, slots := 1542, locals := 220 } : Room)).room s m [.ref ax, .ref (be 0), .ref (be 1), .ref (be 2), .ref (be 3), .ref (be 5), .ref (be 6), .ref (be 7), .ref (be 8), .int (nI a)].toArray below meth c H locs (8 * i) (48 * i) (MQ below (va_Qi (fun (r : Int32) (u : LSt) => r = 1 ∧ u = (σ, ρ, γ)) (xB D (tX cI cJ (cT cO)) (lX be cI cJ (cW ax ar ad cO σ)) A) A) [.ref ax, .ref (be 0), .ref (be 1), .ref (be 2), .ref (be 3), .ref (be 5), .ref (be 6), .ref (be 7), .ref (be 8), .int (nI a)].toArray s 257 1542 A) (F0 m 143 ls []) := by
    intro n
    induction n with
    | zero =>
      intro i ls H locs h9
      exact absurd h9 (Nat.not_lt_zero _)
    | succ n ih =>
      intro i ls H locs hn9 hi hP hD hS hl
      refine lv_iload hx hb dL_isCache_143 (lv_at hl 13 rfl) ?_
      refine lv_bipush (v := 32) hx hb dL_isCache_145 (by decide) ?_
      refine x_icmp_ge (tgt := 430) hx hb dL_isCache_147 (by decide) (fun c_1 => ?_) (fun c_1 => ?_)
      · have hi9 : i = 32 := by
          rcases Nat.lt_or_ge i 32 with q | q
          · exact absurd ((nI_lt32 hi).mpr q) c_1
          · omega
        subst hi9
        refine W.widen (k := 256) (n := 1536) (by decide) (by decide) ?_
        refine lv_iconst (v := 1) hx hb dL_isCache_430 (by decide) ?_
        refine lv_iload hx hb dL_isCache_431 (lv_at hl 9 rfl) ?_
        refine lv_sipush (v := 140) hx hb dL_isCache_433 (by decide) ?_
        refine lv_irem hx hb dL_isCache_436 (by decide) ?_
        refine W.eq (g2 := F0 m 437 ls [.int (nI (a % 140)), .int 1]) (by rw [show nI a - nI a / 140 * 140 = nI (a % 140) from pk_rem (by omega) (by decide) (by decide)]) ?_
        refine lv_iadd hx hb dL_isCache_437 ?_
        refine W.eq (g2 := F0 m 438 ls [.int (nI (1 + a % 140))]) (by rw [show (1 : Int32) + nI (a % 140) = nI (1 + a % 140) from nI_add 1 _]) ?_
        have hin9 : inR (nI (1 + a % 140)) 1 1000 = true := sz_in (by omega)
        have hsz9 : 1 ≤ (nI (1 + a % 140)).toInt ∧ (nI (1 + a % 140)).toInt ≤ 1000 := by rw [nI_toInt (by omega)]; omega
        refine lv_istore (lv' := [(13, .int (nI (1 + a % 140))), (0, .ref ax), (1, .ref (be 0)), (2, .ref (be 1)), (3, .ref (be 2)), (4, .ref (be 3)), (5, .ref (be 5)), (6, .ref (be 6)), (7, .ref (be 7)), (8, .ref (be 8)), (9, .int (nI a)), (10, .int (sumI (eF σ) 32)), (11, .int (oI (efR σ 32))), (12, .int 1)]) hx hb dL_isCache_438 hl (by decide) rfl (fun ls hl => ?_)
        refine lv_iload hx hb dL_isCache_440 (lv_at hl 13 rfl) ?_
        refine lv_if_eq (tgt := 489) hx hb dL_isCache_442 (by decide) (fun c_2 => absurd c_2 (by decide)) (fun _ => ?_)
        refine lv_aload_n hx hb dL_isCache_445 rfl (lv_at hl 1 rfl) ?_
        have hP := P_c (a := lW be cI cJ (σ, ρ, γ)) (b := (cW ax ar ad cO σ)) hP
        have hD := D_c (a := lW be cI cJ (σ, ρ, γ)) (b := (cW ax ar ad cO σ)) hD
        refine f_calli (va_runV (As := []) (rest := []) ⟨hx, hb, hml, hown, hts⟩ (k_X1_entries l D ax ar ad cO H.size σ) (cwV 0 hts gL_isCache_X1_entries rfl rfl rfl (by decide +kernel) ⟨Nat.le_of_ble_eq_true rfl, Nat.le_of_ble_eq_true rfl⟩) (xPreV xE_ok hE hKc hA (P_l hP) (D_l hD) hS (q0 := 0) (ci := 1) rfl rfl rfl) rfl rfl hl.1 rfl (lv_room (Nat.le_of_ble_eq_true rfl)) dL_isCache_446 ⟨Nat.le_of_ble_eq_true rfl, Nat.le_of_ble_eq_true rfl⟩) hP hD hS hA (fun r u H locs hp hP hD hS => ?_)
        obtain ⟨rfl, hu9⟩ := hp
        rw [hu9] at hP hD
        have hP : va_P D vwCl (lX be cI cJ (cW ax ar ad cO σ) (σ, ρ, γ)) H := P_c hP
        have hD : va_D A (lX be cI cJ (cW ax ar ad cO σ) (σ, ρ, γ)) := D_c hD
        refine lv_iload hx hb dL_isCache_449 (lv_at hl 11 rfl) ?_
        refine W.eq (g2 := F0 m 451 ls [.int (ents σ), .int (ents σ)]) (by rfl) ?_
        refine lv_icmp_ne (tgt := 489) hx hb dL_isCache_451 (by decide) (fun c9 => absurd (rfl) c9) (fun _ => ?_)
        refine lv_aload_n hx hb dL_isCache_454 rfl (lv_at hl 1 rfl) ?_
        have hP := P_c (a := lW be cI cJ (σ, ρ, γ)) (b := (cW ax ar ad cO σ)) hP
        have hD := D_c (a := lW be cI cJ (σ, ρ, γ)) (b := (cW ax ar ad cO σ)) hD
        refine f_calli (va_runV (As := []) (rest := []) ⟨hx, hb, hml, hown, hts⟩ (k_X1_endsFirst l D ax ar ad cO H.size σ) (cwV 0 hts gL_isCache_X1_endsFirst rfl rfl rfl (by decide +kernel) ⟨Nat.le_of_ble_eq_true rfl, Nat.le_of_ble_eq_true rfl⟩) (xPreV xE_ok hE hKc hA (P_l hP) (D_l hD) hS (q0 := 0) (ci := 1) rfl rfl rfl) rfl rfl hl.1 rfl (lv_room (Nat.le_of_ble_eq_true rfl)) dL_isCache_455 ⟨Nat.le_of_ble_eq_true rfl, Nat.le_of_ble_eq_true rfl⟩) hP hD hS hA (fun r u H locs hp hP hD hS => ?_)
        obtain ⟨rfl, hu9⟩ := hp
        rw [hu9] at hP hD
        have hP : va_P D vwCl (lX be cI cJ (cW ax ar ad cO σ) (σ, ρ, γ)) H := P_c hP
        have hD : va_D A (lX be cI cJ (cW ax ar ad cO σ) (σ, ρ, γ)) := D_c hD
        refine lv_iload hx hb dL_isCache_458 (lv_at hl 12 rfl) ?_
        refine W.eq (g2 := F0 m 460 ls [.int (cEnds σ), .int (cEnds σ)]) (by rw [ends_oI hV9]) ?_
        refine lv_icmp_ne (tgt := 489) hx hb dL_isCache_460 (by decide) (fun c9 => absurd (rfl) c9) (fun _ => ?_)
        refine lv_aload_n hx hb dL_isCache_463 rfl (lv_at hl 1 rfl) ?_
        refine lv_iload hx hb dL_isCache_464 (lv_at hl 0 rfl) ?_
        have hP := P_c (a := lW be cI cJ (σ, ρ, γ)) (b := (cW ax ar ad cO σ)) hP
        have hD := D_c (a := lW be cI cJ (σ, ρ, γ)) (b := (cW ax ar ad cO σ)) hD
        have hcl9 : 256 + 1 ≤ 257 := by omega
        have hsl9 : 1536 + 6 ≤ 1542 := by omega
        refine ff_calli (vx_runV (As := [.int (nI (1 + a % 140))]) (rest := []) ⟨hx, hb, hml, hown, hts⟩ (k_X1_wouldLeave l D ax ar ad cO H.size σ (nI (1 + a % 140)) hfl) (cwV 1 hts gL_isCache_X1_wouldLeave rfl rfl rfl (by decide +kernel) ⟨Nat.le_of_ble_eq_true rfl, Nat.le_of_ble_eq_true rfl⟩) (xPreV xE_ok hE hKc hA (P_l hP) (D_l hD) hS (q0 := 0) (ci := 1) rfl rfl rfl) rfl rfl hl.1 rfl (lv_room (Nat.le_of_ble_eq_true rfl)) dL_isCache_466 ⟨hcl9, hsl9⟩) hP hD hS hA (fun En ce q9 H locs hxc hP hS hq9 hv9 hcl8 => ?_) (fun r u H locs hp hP hD hS => ?_)
        · exact absurd (hxc.2.symm.trans hin9) (by decide)
        · obtain ⟨-, rfl, hu9⟩ := hp
          rw [hu9] at hP hD
          have hP : va_P D vwCl (lX be cI cJ (cW ax ar ad cO σ) (σ, ρ, γ)) H := P_c hP
          have hD : va_D A (lX be cI cJ (cW ax ar ad cO σ) (σ, ρ, γ)) := D_c hD
          refine lv_aload_n hx hb dL_isCache_469 rfl (lv_at hl 2 rfl) ?_
          refine lv_aload_n hx hb dL_isCache_470 rfl (lv_at hl 4 rfl) ?_
          refine lv_aload hx hb dL_isCache_471 (lv_at hl 5 rfl) ?_
          refine lv_aload hx hb dL_isCache_473 (lv_at hl 6 rfl) ?_
          refine lv_aload hx hb dL_isCache_475 (lv_at hl 7 rfl) ?_
          refine lv_iload hx hb dL_isCache_477 (lv_at hl 0 rfl) ?_
          refine x_calli (va_runS (As := [.ref (be 0), .ref (be 2), .ref (be 3), .ref (be 5), .ref (be 6), .int (nI (1 + a % 140))]) (rest := [.int (cWould σ (nI (1 + a % 140)))]) ⟨hx, hb, hml, hown, hts⟩ (k_L_would l D be cI cJ (cW ax ar ad cO σ) (cT cO) H.size σ ρ γ (nI (1 + a % 140)) n8 L9 hR9 hS9 hV9 hsz9) (va_cwS 6 hts gL_isCache_L_would rfl rfl rfl (by decide +kernel) ⟨Nat.le_of_ble_eq_true rfl, Nat.le_of_ble_eq_true rfl⟩) (xPreS mE_ok trivial hK hA hP hD hS) rfl rfl hl.1 rfl (lv_room (Nat.le_of_ble_eq_true rfl)) dL_isCache_479 ⟨Nat.le_of_ble_eq_true rfl, Nat.le_of_ble_eq_true rfl⟩) hD hS hA (fun r u H locs hp hP hD hS => ?_)
          obtain ⟨rfl, hu9⟩ := hp
          rw [hu9] at hP hD
          refine lv_icmp_ne (tgt := 489) hx hb dL_isCache_482 (by decide) (fun c9 => absurd (rfl) c9) (fun _ => ?_)
          refine lv_iconst (v := 1) hx hb dL_isCache_485 (by decide) ?_
          refine lv_goto (tgt := 490) hx hb dL_isCache_486 (by decide) ?_
          refine W.widen (k := 257) (n := 1542) (by decide) (by decide) ?_
          exact x_zret (b := true) hx hb hr hlocks hK ((σ, ρ, γ) : LSt) hP hD hS (⟨rfl, rfl⟩) dL_isCache_490
      · have hlt : i < 32 := (nI_lt32 hi).mp c_1
        have hBt : gB σ 1 i = true ↔ 0 < uF σ i := (uF_pos hV9.1 hlt).symm
        have B375 : ∀ (H : Heap) (locs : List Loc) (ls : Array Slot), va_P D vwCl (lX be cI cJ (cW ax ar ad cO σ) (σ, ρ, γ)) H → va_D A (lX be cI cJ (cW ax ar ad cO σ) (σ, ρ, γ)) → va_S A s.heap H locs → lv_has ls 17 [(0, .ref ax), (1, .ref (be 0)), (2, .ref (be 1)), (3, .ref (be 2)), (4, .ref (be 3)), (5, .ref (be 5)), (6, .ref (be 6)), (7, .ref (be 7)), (8, .ref (be 8)), (9, .int (nI a)), (10, .int (sumI (eF σ) (i + 1))), (11, .int (oI (efR σ (i + 1)))), (12, .int 1), (13, .int (nI i)), (14, .int (bI (gB σ 1 i))), (15, .int (cPlace σ i))] → W p l e (headSpec wsL_isCache ({ frames := 10, cells := 257, slots := 1542, locals := 220 } : Room)).room s m [.ref ax, .ref (be 0), .ref (be 1), .ref (be 2), .ref (be 3), .ref (be 5), .ref (be 6), .ref (be 7), .ref (be 8), .int (nI a)].toArray below meth c H locs (8 * i + 1 + 1 + 1 + 1 + 1 + 1) (48 * i + 6 + 6 + 6 + 6 + 6 + 6) (MQ below (va_Qi (fun (r : Int32) (u : LSt) => r = 1 ∧ u = (σ, ρ, γ)) (xB D (tX cI cJ (cT cO)) (lX be cI cJ (cW ax ar ad cO σ)) A) A) [.ref ax, .ref (be 0), .ref (be 1), .ref (be 2), .ref (be 3), .ref (be 5), .ref (be 6), .ref (be 7), .ref (be 8), .int (nI a)].toArray s 257 1542 A) (F0 m 375 ls [.int (if gB σ 1 i then gS σ 5 i else -1), .int (if gB σ 1 i then gS σ 5 i else -1)]) := by
          intro H locs ls  hP hD hS hl
          refine lv_icmp_ne (tgt := 421) hx hb dL_isCache_375 (by decide) (fun c9 => absurd (rfl) c9) (fun _ => ?_)
          refine lv_aload_n hx hb dL_isCache_378 rfl (lv_at hl 0 rfl) ?_
          refine lv_iload hx hb dL_isCache_379 (lv_at hl 13 rfl) ?_
          have hP := P_c (a := lW be cI cJ (σ, ρ, γ)) (b := (cW ax ar ad cO σ)) hP
          have hD := D_c (a := lW be cI cJ (σ, ρ, γ)) (b := (cW ax ar ad cO σ)) hD
          have hcl9 : 8 * i + 1 + 1 + 1 + 1 + 1 + 1 + 1 ≤ 257 := by omega
          have hsl9 : 48 * i + 6 + 6 + 6 + 6 + 6 + 6 + 6 ≤ 1542 := by omega
          refine ff_calli (vx_runV (As := [.int (nI i)]) (rest := []) ⟨hx, hb, hml, hown, hts⟩ (k_X1_placeOf l D ax ar ad cO H.size σ (nI i) hfl) (cwV 1 hts gL_isCache_X1_placeOf rfl rfl rfl (by decide +kernel) ⟨Nat.le_of_ble_eq_true rfl, Nat.le_of_ble_eq_true rfl⟩) (xPreV xE_ok hE hKc hA (P_l hP) (D_l hD) hS (q0 := 0) (ci := 1) rfl rfl rfl) rfl rfl hl.1 rfl (lv_room (Nat.le_of_ble_eq_true rfl)) dL_isCache_381 ⟨hcl9, hsl9⟩) hP hD hS hA (fun En ce q9 H locs hxc hP hS hq9 hv9 hcl8 => ?_) (fun r u H locs hp hP hD hS => ?_)
          · exact absurd (hxc.2.symm.trans (isT_of hlt)) (by decide)
          · obtain ⟨-, hq9, hu9⟩ := hp
            obtain rfl := hq9 i hlt rfl
            rw [hu9] at hP hD
            have hP : va_P D vwCl (lX be cI cJ (cW ax ar ad cO σ) (σ, ρ, γ)) H := P_c hP
            have hD : va_D A (lX be cI cJ (cW ax ar ad cO σ) (σ, ρ, γ)) := D_c hD
            refine lv_iload hx hb dL_isCache_384 (lv_at hl 15 rfl) ?_
            refine lv_icmp_ne (tgt := 421) hx hb dL_isCache_386 (by decide) (fun c9 => absurd (rfl) c9) (fun _ => ?_)
            refine lv_aload_n hx hb dL_isCache_389 rfl (lv_at hl 0 rfl) ?_
            refine lv_iload hx hb dL_isCache_390 (lv_at hl 13 rfl) ?_
            have hP := P_c (a := lW be cI cJ (σ, ρ, γ)) (b := (cW ax ar ad cO σ)) hP
            have hD := D_c (a := lW be cI cJ (σ, ρ, γ)) (b := (cW ax ar ad cO σ)) hD
            have hcl9 : 8 * i + 1 + 1 + 1 + 1 + 1 + 1 + 1 + 1 ≤ 257 := by omega
            have hsl9 : 48 * i + 6 + 6 + 6 + 6 + 6 + 6 + 6 + 6 ≤ 1542 := by omega
            refine f_calli (vx_runSW (As := [.ref ax, .int (nI i)]) (rest := []) ⟨hx, hb, hml, hown, hts⟩ (k_L_order l D ax ar ad cO H.size σ hlt L9 hS9 hO hfl) (vx_cwSW 2 hts gL_isCache_L_order rfl rfl rfl (by decide +kernel) ⟨Nat.le_of_ble_eq_true rfl, Nat.le_of_ble_eq_true rfl⟩) (xPreS xE_ok hE hKc hA (P_l hP) (D_l hD) hS) rfl rfl hl.1 rfl (lv_room (Nat.le_of_ble_eq_true rfl)) dL_isCache_392 ⟨hcl9, hsl9⟩) hP hD hS hA (fun r u H locs hp hP hD hS => ?_)
            obtain ⟨ho1, ho2, hu9⟩ := hp
            rw [hu9] at hP hD
            have hP : va_P D vwCl (lX be cI cJ (cW ax ar ad cO σ) (σ, ρ, γ)) H := P_c hP
            have hD : va_D A (lX be cI cJ (cW ax ar ad cO σ) (σ, ρ, γ)) := D_c hD
            refine lv_iload hx hb dL_isCache_395 (lv_at hl 13 rfl) ?_
            refine lv_aload hx hb dL_isCache_397 (lv_at hl 6 rfl) ?_
            refine lv_iconst (v := 3) hx hb dL_isCache_399 (by decide) ?_
            refine l_ld6 hx hb hK hP (k := 3) (by decide) (v := nI γ) rfl dL_isCache_400 ?_
            refine x_icmp_ge (tgt := 412) hx hb dL_isCache_401 (by decide) (fun c_3 => ?_) (fun c_3 => ?_)
            · refine lv_bipush (v := (-11)) hx hb dL_isCache_412 (by decide) ?_
              have hge : γ ≤ i := by
                rcases Nat.lt_or_ge i γ with q | q
                · exact absurd ((nI_ltI (by omega) (by omega)).mpr q) c_3
                · exact q
              have he9 : r = -11 := ho2 (List.getElem?_eq_none (by omega))
              refine lv_icmp_ne (tgt := 421) hx hb dL_isCache_414 (by decide) (fun c9 => absurd (he9) c9) (fun _ => ?_)
              refine lv_iconst (v := 1) hx hb dL_isCache_417 (by decide) ?_
              refine lv_goto (tgt := 422) hx hb dL_isCache_418 (by decide) ?_
              refine lv_istore (lv' := [(12, .int 1), (0, .ref ax), (1, .ref (be 0)), (2, .ref (be 1)), (3, .ref (be 2)), (4, .ref (be 3)), (5, .ref (be 5)), (6, .ref (be 6)), (7, .ref (be 7)), (8, .ref (be 8)), (9, .int (nI a)), (10, .int (sumI (eF σ) (i + 1))), (11, .int (oI (efR σ (i + 1)))), (13, .int (nI i)), (14, .int (bI (gB σ 1 i))), (15, .int (cPlace σ i))]) hx hb dL_isCache_422 hl (by decide) rfl (fun ls hl => ?_)
              refine lv_iinc (v := (nI i) + 1) (lv' := [(13, .int ((nI i) + 1)), (12, .int 1), (0, .ref ax), (1, .ref (be 0)), (2, .ref (be 1)), (3, .ref (be 2)), (4, .ref (be 3)), (5, .ref (be 5)), (6, .ref (be 6)), (7, .ref (be 7)), (8, .ref (be 8)), (9, .int (nI a)), (10, .int (sumI (eF σ) (i + 1))), (11, .int (oI (efR σ (i + 1)))), (14, .int (bI (gB σ 1 i))), (15, .int (cPlace σ i))]) hx hb dL_isCache_424 hl (k := 13) rfl rfl (by decide) rfl (fun ls hl => ?_)
              refine lv_goto (tgt := 143) hx hb dL_isCache_427 (by decide) ?_
              refine W.widen (k := 8 * (i + 1)) (n := 48 * (i + 1)) (by omega) (by omega) ?_
              exact ih (i + 1) ls H locs (by omega) (by omega) hP hD hS (by rw [nI_succ]; exact lv_sub hl [2, 3, 4, 5, 6, 7, 8, 9, 10, 11, 12, 13, 1, 0] rfl)
            · refine lv_aload hx hb dL_isCache_404 (lv_at hl 5 rfl) ?_
              refine lv_iload hx hb dL_isCache_406 (lv_at hl 13 rfl) ?_
              refine l_ld5 hx hb hK hP (k := i) (by omega) dL_isCache_408 ?_
              refine lv_goto (tgt := 414) hx hb dL_isCache_409 (by decide) ?_
              obtain ⟨y, hy, hye⟩ := row_at hR9 (show i < γ from by
                rcases Nat.lt_or_ge i γ with q | q
                · exact q
                · exact absurd ((nI_ltI (by omega) (by omega)).mp c_3) (by omega))
              have he9 : r = ρ i := by rw [ho1 y hy, hye]; exact hV9.2.2.2.2.2 y (sr_lt hS9 (List.mem_of_getElem? hy))
              refine lv_icmp_ne (tgt := 421) hx hb dL_isCache_414 (by decide) (fun c9 => absurd (he9) c9) (fun _ => ?_)
              refine lv_iconst (v := 1) hx hb dL_isCache_417 (by decide) ?_
              refine lv_goto (tgt := 422) hx hb dL_isCache_418 (by decide) ?_
              refine lv_istore (lv' := [(12, .int 1), (0, .ref ax), (1, .ref (be 0)), (2, .ref (be 1)), (3, .ref (be 2)), (4, .ref (be 3)), (5, .ref (be 5)), (6, .ref (be 6)), (7, .ref (be 7)), (8, .ref (be 8)), (9, .int (nI a)), (10, .int (sumI (eF σ) (i + 1))), (11, .int (oI (efR σ (i + 1)))), (13, .int (nI i)), (14, .int (bI (gB σ 1 i))), (15, .int (cPlace σ i))]) hx hb dL_isCache_422 hl (by decide) rfl (fun ls hl => ?_)
              refine lv_iinc (v := (nI i) + 1) (lv' := [(13, .int ((nI i) + 1)), (12, .int 1), (0, .ref ax), (1, .ref (be 0)), (2, .ref (be 1)), (3, .ref (be 2)), (4, .ref (be 3)), (5, .ref (be 5)), (6, .ref (be 6)), (7, .ref (be 7)), (8, .ref (be 8)), (9, .int (nI a)), (10, .int (sumI (eF σ) (i + 1))), (11, .int (oI (efR σ (i + 1)))), (14, .int (bI (gB σ 1 i))), (15, .int (cPlace σ i))]) hx hb dL_isCache_424 hl (k := 13) rfl rfl (by decide) rfl (fun ls hl => ?_)
              refine lv_goto (tgt := 143) hx hb dL_isCache_427 (by decide) ?_
              refine W.widen (k := 8 * (i + 1)) (n := 48 * (i + 1)) (by omega) (by omega) ?_
              exact ih (i + 1) ls H locs (by omega) (by omega) hP hD hS (by rw [nI_succ]; exact lv_sub hl [2, 3, 4, 5, 6, 7, 8, 9, 10, 11, 12, 13, 1, 0] rfl)
        have B352 : ∀ (H : Heap) (locs : List Loc) (ls : Array Slot), va_P D vwCl (lX be cI cJ (cW ax ar ad cO σ) (σ, ρ, γ)) H → va_D A (lX be cI cJ (cW ax ar ad cO σ) (σ, ρ, γ)) → va_S A s.heap H locs → lv_has ls 17 [(0, .ref ax), (1, .ref (be 0)), (2, .ref (be 1)), (3, .ref (be 2)), (4, .ref (be 3)), (5, .ref (be 5)), (6, .ref (be 6)), (7, .ref (be 7)), (8, .ref (be 8)), (9, .int (nI a)), (10, .int (sumI (eF σ) (i + 1))), (11, .int (oI (efR σ (i + 1)))), (12, .int 1), (13, .int (nI i)), (14, .int (bI (gB σ 1 i))), (15, .int (cPlace σ i))] → W p l e (headSpec wsL_isCache ({ frames := 10, cells := 257, slots := 1542, locals := 220 } : Room)).room s m [.ref ax, .ref (be 0), .ref (be 1), .ref (be 2), .ref (be 3), .ref (be 5), .ref (be 6), .ref (be 7), .ref (be 8), .int (nI a)].toArray below meth c H locs (8 * i + 1 + 1 + 1 + 1 + 1) (48 * i + 6 + 6 + 6 + 6 + 6) (MQ below (va_Qi (fun (r : Int32) (u : LSt) => r = 1 ∧ u = (σ, ρ, γ)) (xB D (tX cI cJ (cT cO)) (lX be cI cJ (cW ax ar ad cO σ)) A) A) [.ref ax, .ref (be 0), .ref (be 1), .ref (be 2), .ref (be 3), .ref (be 5), .ref (be 6), .ref (be 7), .ref (be 8), .int (nI a)].toArray s 257 1542 A) (F0 m 352 ls [.long (if gB σ 1 i then gT σ 6 i else -1), .long (if gB σ 1 i then gT σ 6 i else -1)]) := by
          intro H locs ls  hP hD hS hl
          refine x_ne (tgt := 421) hx hb dL_isCache_352 dL_isCache_353 (by decide) (fun c9 => absurd rfl c9) (fun _ => ?_)
          refine lv_aload_n hx hb dL_isCache_356 rfl (lv_at hl 0 rfl) ?_
          refine lv_iload hx hb dL_isCache_357 (lv_at hl 13 rfl) ?_
          have hP := P_c (a := lW be cI cJ (σ, ρ, γ)) (b := (cW ax ar ad cO σ)) hP
          have hD := D_c (a := lW be cI cJ (σ, ρ, γ)) (b := (cW ax ar ad cO σ)) hD
          have hcl9 : 8 * i + 1 + 1 + 1 + 1 + 1 + 1 ≤ 257 := by omega
          have hsl9 : 48 * i + 6 + 6 + 6 + 6 + 6 + 6 ≤ 1542 := by omega
          refine ff_calli (vx_runV (As := [.int (nI i)]) (rest := []) ⟨hx, hb, hml, hown, hts⟩ (k_X1_endOf l D ax ar ad cO H.size σ (nI i) hfl) (cwV 1 hts gL_isCache_X1_endOf rfl rfl rfl (by decide +kernel) ⟨Nat.le_of_ble_eq_true rfl, Nat.le_of_ble_eq_true rfl⟩) (xPreV xE_ok hE hKc hA (P_l hP) (D_l hD) hS (q0 := 0) (ci := 1) rfl rfl rfl) rfl rfl hl.1 rfl (lv_room (Nat.le_of_ble_eq_true rfl)) dL_isCache_359 ⟨hcl9, hsl9⟩) hP hD hS hA (fun En ce q9 H locs hxc hP hS hq9 hv9 hcl8 => ?_) (fun r u H locs hp hP hD hS => ?_)
          · exact absurd (hxc.2.symm.trans (isT_of hlt)) (by decide)
          · obtain ⟨-, hq9, hu9⟩ := hp
            obtain rfl := hq9 i hlt rfl
            rw [hu9] at hP hD
            have hP : va_P D vwCl (lX be cI cJ (cW ax ar ad cO σ) (σ, ρ, γ)) H := P_c hP
            have hD : va_D A (lX be cI cJ (cW ax ar ad cO σ) (σ, ρ, γ)) := D_c hD
            refine lv_iload hx hb dL_isCache_362 (lv_at hl 14 rfl) ?_
            refine x_ifeq (tgt := 374) hx hb dL_isCache_364 (by decide) (fun c_4 => ?_) (fun c_4 => ?_)
            · refine lv_iconst (v := (-1)) hx hb dL_isCache_374 (by decide) ?_
              refine W.eq (g2 := F0 m 375 ls [.int (if gB σ 1 i then gS σ 5 i else -1), .int (if gB σ 1 i then gS σ 5 i else -1)]) (by rw [c_4]; rfl) ?_
              exact B375 H locs ls hP hD hS (lv_sub hl [0, 1, 2, 3, 4, 5, 6, 7, 8, 9, 10, 11, 12, 13, 14, 15] rfl)
            · refine lv_aload_n hx hb dL_isCache_367 rfl (lv_at hl 3 rfl) ?_
              refine lv_iload hx hb dL_isCache_368 (lv_at hl 13 rfl) ?_
              refine l_ld2 hx hb hK hP hlt dL_isCache_370 ?_
              refine lv_goto (tgt := 375) hx hb dL_isCache_371 (by decide) ?_
              refine W.eq (g2 := F0 m 375 ls [.int (if gB σ 1 i then gS σ 5 i else -1), .int (if gB σ 1 i then gS σ 5 i else -1)]) (by rw [c_4]; rfl) ?_
              exact B375 H locs ls hP hD hS (lv_sub hl [0, 1, 2, 3, 4, 5, 6, 7, 8, 9, 10, 11, 12, 13, 14, 15] rfl)
        have B327 : ∀ (H : Heap) (locs : List Loc) (ls : Array Slot), va_P D vwCl (lX be cI cJ (cW ax ar ad cO σ) (σ, ρ, γ)) H → va_D A (lX be cI cJ (cW ax ar ad cO σ) (σ, ρ, γ)) → va_S A s.heap H locs → lv_has ls 17 [(0, .ref ax), (1, .ref (be 0)), (2, .ref (be 1)), (3, .ref (be 2)), (4, .ref (be 3)), (5, .ref (be 5)), (6, .ref (be 6)), (7, .ref (be 7)), (8, .ref (be 8)), (9, .int (nI a)), (10, .int (sumI (eF σ) (i + 1))), (11, .int (oI (efR σ (i + 1)))), (12, .int 1), (13, .int (nI i)), (14, .int (bI (gB σ 1 i))), (15, .int (cPlace σ i))] → W p l e (headSpec wsL_isCache ({ frames := 10, cells := 257, slots := 1542, locals := 220 } : Room)).room s m [.ref ax, .ref (be 0), .ref (be 1), .ref (be 2), .ref (be 3), .ref (be 5), .ref (be 6), .ref (be 7), .ref (be 8), .int (nI a)].toArray below meth c H locs (8 * i + 1 + 1 + 1 + 1) (48 * i + 6 + 6 + 6 + 6) (MQ below (va_Qi (fun (r : Int32) (u : LSt) => r = 1 ∧ u = (σ, ρ, γ)) (xB D (tX cI cJ (cT cO)) (lX be cI cJ (cW ax ar ad cO σ)) A) A) [.ref ax, .ref (be 0), .ref (be 1), .ref (be 2), .ref (be 3), .ref (be 5), .ref (be 6), .ref (be 7), .ref (be 8), .int (nI a)].toArray s 257 1542 A) (F0 m 327 ls [.int (if gB σ 1 i then gS σ 4 i else 0), .int (if gB σ 1 i then gS σ 4 i else 0)]) := by
          intro H locs ls  hP hD hS hl
          refine lv_icmp_ne (tgt := 421) hx hb dL_isCache_327 (by decide) (fun c9 => absurd (rfl) c9) (fun _ => ?_)
          refine lv_aload_n hx hb dL_isCache_330 rfl (lv_at hl 0 rfl) ?_
          refine lv_iload hx hb dL_isCache_331 (lv_at hl 13 rfl) ?_
          have hP := P_c (a := lW be cI cJ (σ, ρ, γ)) (b := (cW ax ar ad cO σ)) hP
          have hD := D_c (a := lW be cI cJ (σ, ρ, γ)) (b := (cW ax ar ad cO σ)) hD
          have hcl9 : 8 * i + 1 + 1 + 1 + 1 + 1 ≤ 257 := by omega
          have hsl9 : 48 * i + 6 + 6 + 6 + 6 + 6 ≤ 1542 := by omega
          refine ff_calll (vx_runV (As := [.int (nI i)]) (rest := []) ⟨hx, hb, hml, hown, hts⟩ (k_X1_worthOf l D ax ar ad cO H.size σ (nI i) hfl) (cwV 1 hts gL_isCache_X1_worthOf rfl rfl rfl (by decide +kernel) ⟨Nat.le_of_ble_eq_true rfl, Nat.le_of_ble_eq_true rfl⟩) (xPreV xE_ok hE hKc hA (P_l hP) (D_l hD) hS (q0 := 0) (ci := 1) rfl rfl rfl) rfl rfl hl.1 rfl (lv_room (Nat.le_of_ble_eq_true rfl)) dL_isCache_333 ⟨hcl9, hsl9⟩) hP hD hS hA (fun En ce q9 H locs hxc hP hS hq9 hv9 hcl8 => ?_) (fun r u H locs hp hP hD hS => ?_)
          · exact absurd (hxc.2.symm.trans (isT_of hlt)) (by decide)
          · obtain ⟨-, hq9, hu9⟩ := hp
            obtain rfl := hq9 i hlt rfl
            rw [hu9] at hP hD
            have hP : va_P D vwCl (lX be cI cJ (cW ax ar ad cO σ) (σ, ρ, γ)) H := P_c hP
            have hD : va_D A (lX be cI cJ (cW ax ar ad cO σ) (σ, ρ, γ)) := D_c hD
            refine lv_iload hx hb dL_isCache_336 (lv_at hl 14 rfl) ?_
            refine x_ifeq (tgt := 349) hx hb dL_isCache_338 (by decide) (fun c_5 => ?_) (fun c_5 => ?_)
            · refine lv_ldc2 (v := (-1)) hx hb hown (hts _ (List.mem_of_getElem? (i := 1) rfl)) dL_isCache_349 ?_
              refine W.eq (g2 := F0 m 352 ls [.long (if gB σ 1 i then gT σ 6 i else -1), .long (if gB σ 1 i then gT σ 6 i else -1)]) (by rw [c_5]; rfl) ?_
              exact B352 H locs ls hP hD hS (lv_sub hl [0, 1, 2, 3, 4, 5, 6, 7, 8, 9, 10, 11, 12, 13, 14, 15] rfl)
            · refine lv_aload hx hb dL_isCache_341 (lv_at hl 7 rfl) ?_
              refine lv_iload hx hb dL_isCache_343 (lv_at hl 13 rfl) ?_
              refine l_ld7 hx hb hK hP hlt dL_isCache_345 ?_
              refine lv_goto (tgt := 352) hx hb dL_isCache_346 (by decide) ?_
              refine W.eq (g2 := F0 m 352 ls [.long (if gB σ 1 i then gT σ 6 i else -1), .long (if gB σ 1 i then gT σ 6 i else -1)]) (by rw [c_5]; rfl) ?_
              exact B352 H locs ls hP hD hS (lv_sub hl [0, 1, 2, 3, 4, 5, 6, 7, 8, 9, 10, 11, 12, 13, 14, 15] rfl)
        have B292 : ∀ (H : Heap) (locs : List Loc) (ls : Array Slot), va_P D vwCl (lX be cI cJ (cW ax ar ad cO σ) (σ, ρ, γ)) H → va_D A (lX be cI cJ (cW ax ar ad cO σ) (σ, ρ, γ)) → va_S A s.heap H locs → lv_has ls 17 [(0, .ref ax), (1, .ref (be 0)), (2, .ref (be 1)), (3, .ref (be 2)), (4, .ref (be 3)), (5, .ref (be 5)), (6, .ref (be 6)), (7, .ref (be 7)), (8, .ref (be 8)), (9, .int (nI a)), (10, .int (sumI (eF σ) (i + 1))), (11, .int (oI (efR σ (i + 1)))), (12, .int 1), (13, .int (nI i)), (14, .int (bI (gB σ 1 i))), (15, .int (cPlace σ i))] → W p l e (headSpec wsL_isCache ({ frames := 10, cells := 257, slots := 1542, locals := 220 } : Room)).room s m [.ref ax, .ref (be 0), .ref (be 1), .ref (be 2), .ref (be 3), .ref (be 5), .ref (be 6), .ref (be 7), .ref (be 8), .int (nI a)].toArray below meth c H locs (8 * i + 1 + 1) (48 * i + 6 + 6) (MQ below (va_Qi (fun (r : Int32) (u : LSt) => r = 1 ∧ u = (σ, ρ, γ)) (xB D (tX cI cJ (cT cO)) (lX be cI cJ (cW ax ar ad cO σ)) A) A) [.ref ax, .ref (be 0), .ref (be 1), .ref (be 2), .ref (be 3), .ref (be 5), .ref (be 6), .ref (be 7), .ref (be 8), .int (nI a)].toArray s 257 1542 A) (F0 m 292 ls [.int (bI (gB σ 1 i && ended σ i)), .int (bI (gB σ 1 i && ended σ i))]) := by
          intro H locs ls  hP hD hS hl
          refine lv_icmp_ne (tgt := 421) hx hb dL_isCache_292 (by decide) (fun c9 => absurd (rfl) c9) (fun _ => ?_)
          refine lv_aload_n hx hb dL_isCache_295 rfl (lv_at hl 0 rfl) ?_
          refine lv_iload hx hb dL_isCache_296 (lv_at hl 13 rfl) ?_
          have hP := P_c (a := lW be cI cJ (σ, ρ, γ)) (b := (cW ax ar ad cO σ)) hP
          have hD := D_c (a := lW be cI cJ (σ, ρ, γ)) (b := (cW ax ar ad cO σ)) hD
          have hcl9 : 8 * i + 1 + 1 + 1 ≤ 257 := by omega
          have hsl9 : 48 * i + 6 + 6 + 6 ≤ 1542 := by omega
          refine ff_calli (vx_runV (As := [.int (nI i)]) (rest := []) ⟨hx, hb, hml, hown, hts⟩ (k_X1_sizeOf l D ax ar ad cO H.size σ (nI i) hfl) (cwV 1 hts gL_isCache_X1_sizeOf rfl rfl rfl (by decide +kernel) ⟨Nat.le_of_ble_eq_true rfl, Nat.le_of_ble_eq_true rfl⟩) (xPreV xE_ok hE hKc hA (P_l hP) (D_l hD) hS (q0 := 0) (ci := 1) rfl rfl rfl) rfl rfl hl.1 rfl (lv_room (Nat.le_of_ble_eq_true rfl)) dL_isCache_298 ⟨hcl9, hsl9⟩) hP hD hS hA (fun En ce q9 H locs hxc hP hS hq9 hv9 hcl8 => ?_) (fun r u H locs hp hP hD hS => ?_)
          · exact absurd (hxc.2.symm.trans (isT_of hlt)) (by decide)
          · obtain ⟨-, hq9, hu9⟩ := hp
            obtain rfl := hq9 i hlt rfl
            rw [hu9] at hP hD
            have hP : va_P D vwCl (lX be cI cJ (cW ax ar ad cO σ) (σ, ρ, γ)) H := P_c hP
            have hD : va_D A (lX be cI cJ (cW ax ar ad cO σ) (σ, ρ, γ)) := D_c hD
            refine lv_aload_n hx hb dL_isCache_301 rfl (lv_at hl 1 rfl) ?_
            refine lv_iload hx hb dL_isCache_302 (lv_at hl 13 rfl) ?_
            refine l_ld0 hx hb hK hP hlt dL_isCache_304 ?_
            refine W.eq (g2 := F0 m 305 ls [.int (if gB σ 1 i then gS σ 3 i else 0), .int (if gB σ 1 i then gS σ 3 i else 0)]) (by rfl) ?_
            refine lv_icmp_ne (tgt := 421) hx hb dL_isCache_305 (by decide) (fun c9 => absurd (rfl) c9) (fun _ => ?_)
            refine lv_aload_n hx hb dL_isCache_308 rfl (lv_at hl 0 rfl) ?_
            refine lv_iload hx hb dL_isCache_309 (lv_at hl 13 rfl) ?_
            have hP := P_c (a := lW be cI cJ (σ, ρ, γ)) (b := (cW ax ar ad cO σ)) hP
            have hD := D_c (a := lW be cI cJ (σ, ρ, γ)) (b := (cW ax ar ad cO σ)) hD
            have hcl9 : 8 * i + 1 + 1 + 1 + 1 ≤ 257 := by omega
            have hsl9 : 48 * i + 6 + 6 + 6 + 6 ≤ 1542 := by omega
            refine ff_calli (vx_runV (As := [.int (nI i)]) (rest := []) ⟨hx, hb, hml, hown, hts⟩ (k_X1_frequencyOf l D ax ar ad cO H.size σ (nI i) hfl) (cwV 1 hts gL_isCache_X1_frequencyOf rfl rfl rfl (by decide +kernel) ⟨Nat.le_of_ble_eq_true rfl, Nat.le_of_ble_eq_true rfl⟩) (xPreV xE_ok hE hKc hA (P_l hP) (D_l hD) hS (q0 := 0) (ci := 1) rfl rfl rfl) rfl rfl hl.1 rfl (lv_room (Nat.le_of_ble_eq_true rfl)) dL_isCache_311 ⟨hcl9, hsl9⟩) hP hD hS hA (fun En ce q9 H locs hxc hP hS hq9 hv9 hcl8 => ?_) (fun r u H locs hp hP hD hS => ?_)
            · exact absurd (hxc.2.symm.trans (isT_of hlt)) (by decide)
            · obtain ⟨-, hq9, hu9⟩ := hp
              obtain rfl := hq9 i hlt rfl
              rw [hu9] at hP hD
              have hP : va_P D vwCl (lX be cI cJ (cW ax ar ad cO σ) (σ, ρ, γ)) H := P_c hP
              have hD : va_D A (lX be cI cJ (cW ax ar ad cO σ) (σ, ρ, γ)) := D_c hD
              refine lv_iload hx hb dL_isCache_314 (lv_at hl 14 rfl) ?_
              refine x_ifeq (tgt := 326) hx hb dL_isCache_316 (by decide) (fun c_6 => ?_) (fun c_6 => ?_)
              · refine lv_iconst (v := 0) hx hb dL_isCache_326 (by decide) ?_
                refine W.eq (g2 := F0 m 327 ls [.int (if gB σ 1 i then gS σ 4 i else 0), .int (if gB σ 1 i then gS σ 4 i else 0)]) (by rw [c_6]; rfl) ?_
                exact B327 H locs ls hP hD hS (lv_sub hl [0, 1, 2, 3, 4, 5, 6, 7, 8, 9, 10, 11, 12, 13, 14, 15] rfl)
              · refine lv_aload_n hx hb dL_isCache_319 rfl (lv_at hl 2 rfl) ?_
                refine lv_iload hx hb dL_isCache_320 (lv_at hl 13 rfl) ?_
                refine l_ld1 hx hb hK hP hlt dL_isCache_322 ?_
                refine lv_goto (tgt := 327) hx hb dL_isCache_323 (by decide) ?_
                refine W.eq (g2 := F0 m 327 ls [.int (if gB σ 1 i then gS σ 4 i else 0), .int (if gB σ 1 i then gS σ 4 i else 0)]) (by rw [c_6]; rfl) ?_
                exact B327 H locs ls hP hD hS (lv_sub hl [0, 1, 2, 3, 4, 5, 6, 7, 8, 9, 10, 11, 12, 13, 14, 15] rfl)
        have B254 : ∀ (H : Heap) (locs : List Loc) (ls : Array Slot), va_P D vwCl (lX be cI cJ (cW ax ar ad cO σ) (σ, ρ, γ)) H → va_D A (lX be cI cJ (cW ax ar ad cO σ) (σ, ρ, γ)) → va_S A s.heap H locs → lv_has ls 17 [(0, .ref ax), (1, .ref (be 0)), (2, .ref (be 1)), (3, .ref (be 2)), (4, .ref (be 3)), (5, .ref (be 5)), (6, .ref (be 6)), (7, .ref (be 7)), (8, .ref (be 8)), (9, .int (nI a)), (10, .int (sumI (eF σ) (i + 1))), (11, .int (oI (efR σ (i + 1)))), (12, .int 1), (13, .int (nI i)), (14, .int (bI (gB σ 1 i))), (15, .int (cPlace σ i))] → W p l e (headSpec wsL_isCache ({ frames := 10, cells := 257, slots := 1542, locals := 220 } : Room)).room s m [.ref ax, .ref (be 0), .ref (be 1), .ref (be 2), .ref (be 3), .ref (be 5), .ref (be 6), .ref (be 7), .ref (be 8), .int (nI a)].toArray below meth c H locs (8 * i) (48 * i) (MQ below (va_Qi (fun (r : Int32) (u : LSt) => r = 1 ∧ u = (σ, ρ, γ)) (xB D (tX cI cJ (cT cO)) (lX be cI cJ (cW ax ar ad cO σ)) A) A) [.ref ax, .ref (be 0), .ref (be 1), .ref (be 2), .ref (be 3), .ref (be 5), .ref (be 6), .ref (be 7), .ref (be 8), .int (nI a)].toArray s 257 1542 A) (F0 m 254 ls []) := by
          intro H locs ls  hP hD hS hl
          refine lv_aload_n hx hb dL_isCache_254 rfl (lv_at hl 0 rfl) ?_
          refine lv_iload hx hb dL_isCache_255 (lv_at hl 13 rfl) ?_
          have hP := P_c (a := lW be cI cJ (σ, ρ, γ)) (b := (cW ax ar ad cO σ)) hP
          have hD := D_c (a := lW be cI cJ (σ, ρ, γ)) (b := (cW ax ar ad cO σ)) hD
          have hcl9 : 8 * i + 1 ≤ 257 := by omega
          have hsl9 : 48 * i + 6 ≤ 1542 := by omega
          refine ff_calli (vx_runV (As := [.int (nI i)]) (rest := []) ⟨hx, hb, hml, hown, hts⟩ (k_X1_has l D ax ar ad cO H.size σ (nI i) hfl) (cwV 1 hts gL_isCache_X1_has rfl rfl rfl (by decide +kernel) ⟨Nat.le_of_ble_eq_true rfl, Nat.le_of_ble_eq_true rfl⟩) (xPreV xE_ok hE hKc hA (P_l hP) (D_l hD) hS (q0 := 0) (ci := 1) rfl rfl rfl) rfl rfl hl.1 rfl (lv_room (Nat.le_of_ble_eq_true rfl)) dL_isCache_257 ⟨hcl9, hsl9⟩) hP hD hS hA (fun En ce q9 H locs hxc hP hS hq9 hv9 hcl8 => ?_) (fun r u H locs hp hP hD hS => ?_)
          · exact absurd (hxc.2.symm.trans (isT_of hlt)) (by decide)
          · obtain ⟨-, hq9, hu9⟩ := hp
            obtain rfl := hq9 i hlt rfl
            rw [hu9] at hP hD
            have hP : va_P D vwCl (lX be cI cJ (cW ax ar ad cO σ) (σ, ρ, γ)) H := P_c hP
            have hD : va_D A (lX be cI cJ (cW ax ar ad cO σ) (σ, ρ, γ)) := D_c hD
            refine lv_iload hx hb dL_isCache_260 (lv_at hl 14 rfl) ?_
            refine lv_icmp_ne (tgt := 421) hx hb dL_isCache_262 (by decide) (fun c9 => absurd (rfl) c9) (fun _ => ?_)
            refine lv_aload_n hx hb dL_isCache_265 rfl (lv_at hl 0 rfl) ?_
            refine lv_iload hx hb dL_isCache_266 (lv_at hl 13 rfl) ?_
            have hP := P_c (a := lW be cI cJ (σ, ρ, γ)) (b := (cW ax ar ad cO σ)) hP
            have hD := D_c (a := lW be cI cJ (σ, ρ, γ)) (b := (cW ax ar ad cO σ)) hD
            have hcl9 : 8 * i + 1 + 1 ≤ 257 := by omega
            have hsl9 : 48 * i + 6 + 6 ≤ 1542 := by omega
            refine ff_calli (vx_runV (As := [.int (nI i)]) (rest := []) ⟨hx, hb, hml, hown, hts⟩ (k_X1_isOver l D ax ar ad cO H.size σ (nI i) hfl) (cwV 1 hts gL_isCache_X1_isOver rfl rfl rfl (by decide +kernel) ⟨Nat.le_of_ble_eq_true rfl, Nat.le_of_ble_eq_true rfl⟩) (xPreV xE_ok hE hKc hA (P_l hP) (D_l hD) hS (q0 := 0) (ci := 1) rfl rfl rfl) rfl rfl hl.1 rfl (lv_room (Nat.le_of_ble_eq_true rfl)) dL_isCache_268 ⟨hcl9, hsl9⟩) hP hD hS hA (fun En ce q9 H locs hxc hP hS hq9 hv9 hcl8 => ?_) (fun r u H locs hp hP hD hS => ?_)
            · exact absurd (hxc.2.symm.trans (isT_of hlt)) (by decide)
            · obtain ⟨-, hq9, hu9⟩ := hp
              obtain rfl := hq9 i hlt rfl
              rw [hu9] at hP hD
              have hP : va_P D vwCl (lX be cI cJ (cW ax ar ad cO σ) (σ, ρ, γ)) H := P_c hP
              have hD : va_D A (lX be cI cJ (cW ax ar ad cO σ) (σ, ρ, γ)) := D_c hD
              refine lv_iload hx hb dL_isCache_271 (lv_at hl 14 rfl) ?_
              refine x_ifeq (tgt := 291) hx hb dL_isCache_273 (by decide) (fun c_7 => ?_) (fun c_7 => ?_)
              · refine lv_iconst (v := 0) hx hb dL_isCache_291 (by decide) ?_
                refine W.eq (g2 := F0 m 292 ls [.int (bI (gB σ 1 i && ended σ i)), .int (bI (gB σ 1 i && ended σ i))]) (by rw [c_7]; rfl) ?_
                exact B292 H locs ls hP hD hS (lv_sub hl [0, 1, 2, 3, 4, 5, 6, 7, 8, 9, 10, 11, 12, 13, 14, 15] rfl)
              · refine lv_aload_n hx hb dL_isCache_276 rfl (lv_at hl 3 rfl) ?_
                refine lv_iload hx hb dL_isCache_277 (lv_at hl 13 rfl) ?_
                refine l_ld2 hx hb hK hP hlt dL_isCache_279 ?_
                refine lv_aload hx hb dL_isCache_280 (lv_at hl 6 rfl) ?_
                refine lv_iconst (v := 0) hx hb dL_isCache_282 (by decide) ?_
                refine l_ld6 hx hb hK hP (k := 0) (by decide) (v := gI σ 1) rfl dL_isCache_283 ?_
                refine lv_icmp_gt (tgt := 291) hx hb dL_isCache_284 (by decide) (fun c_8 => ?_) (fun c_8 => ?_)
                · refine lv_iconst (v := 0) hx hb dL_isCache_291 (by decide) ?_
                  refine W.eq (g2 := F0 m 292 ls [.int (bI (gB σ 1 i && ended σ i)), .int (bI (gB σ 1 i && ended σ i))]) (by rw [c_7, en_f c_8]; rfl) ?_
                  exact B292 H locs ls hP hD hS (lv_sub hl [0, 1, 2, 3, 4, 5, 6, 7, 8, 9, 10, 11, 12, 13, 14, 15] rfl)
                · refine lv_iconst (v := 1) hx hb dL_isCache_287 (by decide) ?_
                  refine lv_goto (tgt := 292) hx hb dL_isCache_288 (by decide) ?_
                  refine W.eq (g2 := F0 m 292 ls [.int (bI (gB σ 1 i && ended σ i)), .int (bI (gB σ 1 i && ended σ i))]) (by rw [c_7, en_t c_8]; rfl) ?_
                  exact B292 H locs ls hP hD hS (lv_sub hl [0, 1, 2, 3, 4, 5, 6, 7, 8, 9, 10, 11, 12, 13, 14, 15] rfl)
        have B214 : ∀ (H : Heap) (locs : List Loc) (ls : Array Slot), va_P D vwCl (lX be cI cJ (cW ax ar ad cO σ) (σ, ρ, γ)) H → va_D A (lX be cI cJ (cW ax ar ad cO σ) (σ, ρ, γ)) → va_S A s.heap H locs → lv_has ls 17 [(0, .ref ax), (1, .ref (be 0)), (2, .ref (be 1)), (3, .ref (be 2)), (4, .ref (be 3)), (5, .ref (be 5)), (6, .ref (be 6)), (7, .ref (be 7)), (8, .ref (be 8)), (9, .int (nI a)), (10, .int (sumI (eF σ) (i + 1))), (11, .int (oI (efR σ (i + 1)))), (12, .int 1), (13, .int (nI i)), (14, .int (bI (gB σ 1 i)))] → W p l e (headSpec wsL_isCache ({ frames := 10, cells := 257, slots := 1542, locals := 220 } : Room)).room s m [.ref ax, .ref (be 0), .ref (be 1), .ref (be 2), .ref (be 3), .ref (be 5), .ref (be 6), .ref (be 7), .ref (be 8), .int (nI a)].toArray below meth c H locs (8 * i) (48 * i) (MQ below (va_Qi (fun (r : Int32) (u : LSt) => r = 1 ∧ u = (σ, ρ, γ)) (xB D (tX cI cJ (cT cO)) (lX be cI cJ (cW ax ar ad cO σ)) A) A) [.ref ax, .ref (be 0), .ref (be 1), .ref (be 2), .ref (be 3), .ref (be 5), .ref (be 6), .ref (be 7), .ref (be 8), .int (nI a)].toArray s 257 1542 A) (F0 m 214 ls []) := by
          intro H locs ls  hP hD hS hl
          refine lv_iconst (v := (-1)) hx hb dL_isCache_214 (by decide) ?_
          refine lv_istore (lv' := [(15, .int (-1)), (0, .ref ax), (1, .ref (be 0)), (2, .ref (be 1)), (3, .ref (be 2)), (4, .ref (be 3)), (5, .ref (be 5)), (6, .ref (be 6)), (7, .ref (be 7)), (8, .ref (be 8)), (9, .int (nI a)), (10, .int (sumI (eF σ) (i + 1))), (11, .int (oI (efR σ (i + 1)))), (12, .int 1), (13, .int (nI i)), (14, .int (bI (gB σ 1 i)))]) hx hb dL_isCache_215 hl (by decide) rfl (fun ls hl => ?_)
          refine lv_iconst (v := 0) hx hb dL_isCache_217 (by decide) ?_
          refine lv_istore (lv' := [(16, .int 0), (15, .int (-1)), (0, .ref ax), (1, .ref (be 0)), (2, .ref (be 1)), (3, .ref (be 2)), (4, .ref (be 3)), (5, .ref (be 5)), (6, .ref (be 6)), (7, .ref (be 7)), (8, .ref (be 8)), (9, .int (nI a)), (10, .int (sumI (eF σ) (i + 1))), (11, .int (oI (efR σ (i + 1)))), (12, .int 1), (13, .int (nI i)), (14, .int (bI (gB σ 1 i)))]) hx hb dL_isCache_218 hl (by decide) rfl (fun ls hl => ?_)
          have loop2 : ∀ (n2 : Nat) (j9 : Nat) (ls : Array Slot) (H : Heap) (locs : List Loc), L9.length - j9 < n2 → j9 ≤ L9.length → va_P D vwCl (lX be cI cJ (cW ax ar ad cO σ) (σ, ρ, γ)) H → va_D A (lX be cI cJ (cW ax ar ad cO σ) (σ, ρ, γ)) → va_S A s.heap H locs → lv_has ls 17 [(0, .ref ax), (1, .ref (be 0)), (2, .ref (be 1)), (3, .ref (be 2)), (4, .ref (be 3)), (5, .ref (be 5)), (6, .ref (be 6)), (7, .ref (be 7)), (8, .ref (be 8)), (9, .int (nI a)), (10, .int (sumI (eF σ) (i + 1))), (11, .int (oI (efR σ (i + 1)))), (12, .int 1), (13, .int (nI i)), (14, .int (bI (gB σ 1 i))), (15, .int (plI L9 i j9)), (16, .int (nI j9))] → W p l e (headSpec wsL_isCache ({ frames := 10, cells := 257, slots := 1542, locals := 220 } : Room)).room s m [.ref ax, .ref (be 0), .ref (be 1), .ref (be 2), .ref (be 3), .ref (be 5), .ref (be 6), .ref (be 7), .ref (be 8), .int (nI a)].toArray below meth c H locs (8 * i) (48 * i) (MQ below (va_Qi (fun (r : Int32) (u : LSt) => r = 1 ∧ u = (σ, ρ, γ)) (xB D (tX cI cJ (cT cO)) (lX be cI cJ (cW ax ar ad cO σ)) A) A) [.ref ax, .ref (be 0), .ref (be 1), .ref (be 2), .ref (be 3), .ref (be 5), .ref (be 6), .ref (be 7), .ref (be 8), .int (nI a)].toArray s 257 1542 A) (F0 m 220 ls []) := by
            intro n2
            induction n2 with
            | zero =>
              intro j9 ls H locs h9
              exact absurd h9 (Nat.not_lt_zero _)
            | succ n2 ih2 =>
              intro j9 ls H locs hn2 hj hP hD hS hl
              refine lv_iload hx hb dL_isCache_220 (lv_at hl 16 rfl) ?_
              refine lv_aload hx hb dL_isCache_222 (lv_at hl 6 rfl) ?_
              refine lv_iconst (v := 3) hx hb dL_isCache_224 (by decide) ?_
              refine l_ld6 hx hb hK hP (k := 3) (by decide) (v := nI γ) rfl dL_isCache_225 ?_
              refine x_icmp_ge (tgt := 254) hx hb dL_isCache_226 (by decide) (fun c_9 => ?_) (fun c_9 => ?_)
              · have hj9 : j9 = L9.length := by
                  rcases Nat.lt_or_ge j9 L9.length with q | q
                  · exact absurd ((nI_ltI (by omega) (by omega)).mpr (by omega)) c_9
                  · omega
                rw [hj9, pl_ok hO hS9 hlt] at hl
                exact B254 H locs ls hP hD hS (lv_sub hl [0, 1, 2, 3, 4, 5, 6, 7, 8, 9, 10, 11, 12, 13, 14, 15] rfl)
              · have hjl : j9 < L9.length := by
                  rcases Nat.lt_or_ge j9 L9.length with q | q
                  · exact q
                  · exact absurd ((nI_ltI (by omega) (by omega)).mp c_9) (by omega)
                obtain ⟨y, hy⟩ : ∃ y, L9[j9]? = some y := ⟨_, List.getElem?_eq_getElem hjl⟩
                have hy32 := sr_lt hS9 (List.mem_of_getElem? hy)
                have e1 := hR9.2 j9 y hy
                refine lv_aload hx hb dL_isCache_229 (lv_at hl 5 rfl) ?_
                refine lv_iload hx hb dL_isCache_231 (lv_at hl 16 rfl) ?_
                refine l_ld5 hx hb hK hP (k := j9) (by omega) dL_isCache_233 ?_
                refine W.eq (g2 := F0 m 234 ls [.int (nI y)]) (by rw [e1]) ?_
                refine lv_iload hx hb dL_isCache_234 (lv_at hl 13 rfl) ?_
                refine lv_icmp_ne (tgt := 244) hx hb dL_isCache_236 (by decide) (fun c_10 => ?_) (fun c_10 => ?_)
                · refine lv_iload hx hb dL_isCache_244 (lv_at hl 15 rfl) ?_
                  refine lv_istore (lv' := [(15, .int (plI L9 i j9)), (0, .ref ax), (1, .ref (be 0)), (2, .ref (be 1)), (3, .ref (be 2)), (4, .ref (be 3)), (5, .ref (be 5)), (6, .ref (be 6)), (7, .ref (be 7)), (8, .ref (be 8)), (9, .int (nI a)), (10, .int (sumI (eF σ) (i + 1))), (11, .int (oI (efR σ (i + 1)))), (12, .int 1), (13, .int (nI i)), (14, .int (bI (gB σ 1 i))), (16, .int (nI j9))]) hx hb dL_isCache_246 hl (by decide) rfl (fun ls hl => ?_)
                  refine lv_iinc (v := (nI j9) + 1) (lv' := [(16, .int ((nI j9) + 1)), (15, .int (plI L9 i j9)), (0, .ref ax), (1, .ref (be 0)), (2, .ref (be 1)), (3, .ref (be 2)), (4, .ref (be 3)), (5, .ref (be 5)), (6, .ref (be 6)), (7, .ref (be 7)), (8, .ref (be 8)), (9, .int (nI a)), (10, .int (sumI (eF σ) (i + 1))), (11, .int (oI (efR σ (i + 1)))), (12, .int 1), (13, .int (nI i)), (14, .int (bI (gB σ 1 i)))]) hx hb dL_isCache_248 hl (k := 16) rfl rfl (by decide) rfl (fun ls hl => ?_)
                  refine lv_goto (tgt := 220) hx hb dL_isCache_251 (by decide) ?_
                  have e9 : plI L9 i (j9 + 1) = plI L9 i j9 := by rw [plI_s, if_neg (fun q => c_10 (by rw [hy] at q; cases q; rfl))]
                  exact ih2 (j9 + 1) ls H locs (by omega) (by omega) hP hD hS (by rw [e9, nI_succ]; exact lv_sub hl [2, 3, 4, 5, 6, 7, 8, 9, 10, 11, 12, 13, 14, 15, 16, 1, 0] rfl)
                · refine lv_iload hx hb dL_isCache_239 (lv_at hl 16 rfl) ?_
                  refine lv_goto (tgt := 246) hx hb dL_isCache_241 (by decide) ?_
                  refine lv_istore (lv' := [(15, .int (nI j9)), (0, .ref ax), (1, .ref (be 0)), (2, .ref (be 1)), (3, .ref (be 2)), (4, .ref (be 3)), (5, .ref (be 5)), (6, .ref (be 6)), (7, .ref (be 7)), (8, .ref (be 8)), (9, .int (nI a)), (10, .int (sumI (eF σ) (i + 1))), (11, .int (oI (efR σ (i + 1)))), (12, .int 1), (13, .int (nI i)), (14, .int (bI (gB σ 1 i))), (16, .int (nI j9))]) hx hb dL_isCache_246 hl (by decide) rfl (fun ls hl => ?_)
                  refine lv_iinc (v := (nI j9) + 1) (lv' := [(16, .int ((nI j9) + 1)), (15, .int (nI j9)), (0, .ref ax), (1, .ref (be 0)), (2, .ref (be 1)), (3, .ref (be 2)), (4, .ref (be 3)), (5, .ref (be 5)), (6, .ref (be 6)), (7, .ref (be 7)), (8, .ref (be 8)), (9, .int (nI a)), (10, .int (sumI (eF σ) (i + 1))), (11, .int (oI (efR σ (i + 1)))), (12, .int 1), (13, .int (nI i)), (14, .int (bI (gB σ 1 i)))]) hx hb dL_isCache_248 hl (k := 16) rfl rfl (by decide) rfl (fun ls hl => ?_)
                  refine lv_goto (tgt := 220) hx hb dL_isCache_251 (by decide) ?_
                  have e9 : plI L9 i (j9 + 1) = nI j9 := by rw [plI_s, if_pos (by rw [hy, nI_inj32 hy32 hlt c_10])]
                  exact ih2 (j9 + 1) ls H locs (by omega) (by omega) hP hD hS (by rw [e9, nI_succ]; exact lv_sub hl [2, 3, 4, 5, 6, 7, 8, 9, 10, 11, 12, 13, 14, 15, 16, 1, 0] rfl)
          exact loop2 (L9.length + 1) 0 ls H locs (by omega) (Nat.zero_le _) hP hD hS (lv_sub hl [2, 3, 4, 5, 6, 7, 8, 9, 10, 11, 12, 13, 14, 15, 16, 1, 0] rfl)
        have B184 : ∀ (H : Heap) (locs : List Loc) (ls : Array Slot), va_P D vwCl (lX be cI cJ (cW ax ar ad cO σ) (σ, ρ, γ)) H → va_D A (lX be cI cJ (cW ax ar ad cO σ) (σ, ρ, γ)) → va_S A s.heap H locs → lv_has ls 17 [(0, .ref ax), (1, .ref (be 0)), (2, .ref (be 1)), (3, .ref (be 2)), (4, .ref (be 3)), (5, .ref (be 5)), (6, .ref (be 6)), (7, .ref (be 7)), (8, .ref (be 8)), (9, .int (nI a)), (10, .int (sumI (eF σ) (i + 1))), (11, .int (oI (efR σ i))), (12, .int 1), (13, .int (nI i)), (14, .int (bI (gB σ 1 i)))] → W p l e (headSpec wsL_isCache ({ frames := 10, cells := 257, slots := 1542, locals := 220 } : Room)).room s m [.ref ax, .ref (be 0), .ref (be 1), .ref (be 2), .ref (be 3), .ref (be 5), .ref (be 6), .ref (be 7), .ref (be 8), .int (nI a)].toArray below meth c H locs (8 * i) (48 * i) (MQ below (va_Qi (fun (r : Int32) (u : LSt) => r = 1 ∧ u = (σ, ρ, γ)) (xB D (tX cI cJ (cT cO)) (lX be cI cJ (cW ax ar ad cO σ)) A) A) [.ref ax, .ref (be 0), .ref (be 1), .ref (be 2), .ref (be 3), .ref (be 5), .ref (be 6), .ref (be 7), .ref (be 8), .int (nI a)].toArray s 257 1542 A) (F0 m 184 ls []) := by
          intro H locs ls  hP hD hS hl
          refine lv_iload hx hb dL_isCache_184 (lv_at hl 14 rfl) ?_
          refine x_ifeq (tgt := 210) hx hb dL_isCache_186 (by decide) (fun c_11 => ?_) (fun c_11 => ?_)
          · refine lv_iload hx hb dL_isCache_210 (lv_at hl 11 rfl) ?_
            refine lv_istore (lv' := [(11, .int (oI (efR σ i))), (0, .ref ax), (1, .ref (be 0)), (2, .ref (be 1)), (3, .ref (be 2)), (4, .ref (be 3)), (5, .ref (be 5)), (6, .ref (be 6)), (7, .ref (be 7)), (8, .ref (be 8)), (9, .int (nI a)), (10, .int (sumI (eF σ) (i + 1))), (12, .int 1), (13, .int (nI i)), (14, .int (bI (gB σ 1 i)))]) hx hb dL_isCache_212 hl (by decide) rfl (fun ls hl => ?_)
            have e9 : oI (efR σ (i + 1)) = oI (efR σ i) := by rw [efR_s, c_11]; rfl
            have hl := lv_sub hl [1, 2, 3, 4, 5, 6, 7, 8, 9, 10, 11, 0, 12, 13, 14] rfl
            have hl : lv_has ls 17 [(0, .ref ax), (1, .ref (be 0)), (2, .ref (be 1)), (3, .ref (be 2)), (4, .ref (be 3)), (5, .ref (be 5)), (6, .ref (be 6)), (7, .ref (be 7)), (8, .ref (be 8)), (9, .int (nI a)), (10, .int (sumI (eF σ) (i + 1))), (11, .int (oI (efR σ (i + 1)))), (12, .int 1), (13, .int (nI i)), (14, .int (bI (gB σ 1 i)))] := by rw [e9]; exact hl
            exact B214 H locs ls hP hD hS hl
          · refine lv_iload hx hb dL_isCache_189 (lv_at hl 11 rfl) ?_
            refine lv_if_lt (tgt := 205) hx hb dL_isCache_191 (by decide) (fun c_12 => ?_) (fun c_12 => ?_)
            · refine lv_iload hx hb dL_isCache_205 (lv_at hl 13 rfl) ?_
              refine lv_goto (tgt := 212) hx hb dL_isCache_207 (by decide) ?_
              refine lv_istore (lv' := [(11, .int (nI i)), (0, .ref ax), (1, .ref (be 0)), (2, .ref (be 1)), (3, .ref (be 2)), (4, .ref (be 3)), (5, .ref (be 5)), (6, .ref (be 6)), (7, .ref (be 7)), (8, .ref (be 8)), (9, .int (nI a)), (10, .int (sumI (eF σ) (i + 1))), (12, .int 1), (13, .int (nI i)), (14, .int (bI (gB σ 1 i)))]) hx hb dL_isCache_212 hl (by decide) rfl (fun ls hl => ?_)
              have e9 : oI (efR σ (i + 1)) = nI i := by rw [efR_s, (oI_lt (fun _ h => Nat.lt_trans (efR_lt _ _ _ h) hlt)).mp c_12, c_11]; rfl
              have hl := lv_sub hl [1, 2, 3, 4, 5, 6, 7, 8, 9, 10, 11, 0, 12, 13, 14] rfl
              have hl : lv_has ls 17 [(0, .ref ax), (1, .ref (be 0)), (2, .ref (be 1)), (3, .ref (be 2)), (4, .ref (be 3)), (5, .ref (be 5)), (6, .ref (be 6)), (7, .ref (be 7)), (8, .ref (be 8)), (9, .int (nI a)), (10, .int (sumI (eF σ) (i + 1))), (11, .int (oI (efR σ (i + 1)))), (12, .int 1), (13, .int (nI i)), (14, .int (bI (gB σ 1 i)))] := by rw [e9]; exact hl
              exact B214 H locs ls hP hD hS hl
            · obtain ⟨m9, hm9⟩ : ∃ m9, efR σ i = some m9 := by
                cases h9 : efR σ i with
                | none => exact absurd (by rw [h9]; decide) c_12
                | some m9 => exact ⟨m9, rfl⟩
              have hm32 : m9 < 32 := Nat.lt_trans (efR_lt _ _ _ hm9) hlt
              rw [hm9] at hl
              have hl : lv_has ls 17 [(0, .ref ax), (1, .ref (be 0)), (2, .ref (be 1)), (3, .ref (be 2)), (4, .ref (be 3)), (5, .ref (be 5)), (6, .ref (be 6)), (7, .ref (be 7)), (8, .ref (be 8)), (9, .int (nI a)), (10, .int (sumI (eF σ) (i + 1))), (11, .int (nI m9)), (12, .int 1), (13, .int (nI i)), (14, .int (bI (gB σ 1 i)))] := hl
              refine lv_aload_n hx hb dL_isCache_194 rfl (lv_at hl 3 rfl) ?_
              refine lv_iload hx hb dL_isCache_195 (lv_at hl 13 rfl) ?_
              refine l_ld2 hx hb hK hP hlt dL_isCache_197 ?_
              refine lv_aload_n hx hb dL_isCache_198 rfl (lv_at hl 3 rfl) ?_
              refine lv_iload hx hb dL_isCache_199 (lv_at hl 11 rfl) ?_
              refine l_ld2 hx hb hK hP hm32 dL_isCache_201 ?_
              refine x_icmp_ge (tgt := 210) hx hb dL_isCache_202 (by decide) (fun c_13 => ?_) (fun c_13 => ?_)
              · refine lv_iload hx hb dL_isCache_210 (lv_at hl 11 rfl) ?_
                refine lv_istore (lv' := [(11, .int (nI m9)), (0, .ref ax), (1, .ref (be 0)), (2, .ref (be 1)), (3, .ref (be 2)), (4, .ref (be 3)), (5, .ref (be 5)), (6, .ref (be 6)), (7, .ref (be 7)), (8, .ref (be 8)), (9, .int (nI a)), (10, .int (sumI (eF σ) (i + 1))), (12, .int 1), (13, .int (nI i)), (14, .int (bI (gB σ 1 i)))]) hx hb dL_isCache_212 hl (by decide) rfl (fun ls hl => ?_)
                have e9 : oI (efR σ (i + 1)) = nI m9 := by rw [efR_s, hm9, c_11]; simp [endO, oI, c_13]
                have hl := lv_sub hl [1, 2, 3, 4, 5, 6, 7, 8, 9, 10, 11, 0, 12, 13, 14] rfl
                have hl : lv_has ls 17 [(0, .ref ax), (1, .ref (be 0)), (2, .ref (be 1)), (3, .ref (be 2)), (4, .ref (be 3)), (5, .ref (be 5)), (6, .ref (be 6)), (7, .ref (be 7)), (8, .ref (be 8)), (9, .int (nI a)), (10, .int (sumI (eF σ) (i + 1))), (11, .int (oI (efR σ (i + 1)))), (12, .int 1), (13, .int (nI i)), (14, .int (bI (gB σ 1 i)))] := by rw [e9]; exact hl
                exact B214 H locs ls hP hD hS hl
              · refine lv_iload hx hb dL_isCache_205 (lv_at hl 13 rfl) ?_
                refine lv_goto (tgt := 212) hx hb dL_isCache_207 (by decide) ?_
                refine lv_istore (lv' := [(11, .int (nI i)), (0, .ref ax), (1, .ref (be 0)), (2, .ref (be 1)), (3, .ref (be 2)), (4, .ref (be 3)), (5, .ref (be 5)), (6, .ref (be 6)), (7, .ref (be 7)), (8, .ref (be 8)), (9, .int (nI a)), (10, .int (sumI (eF σ) (i + 1))), (12, .int 1), (13, .int (nI i)), (14, .int (bI (gB σ 1 i)))]) hx hb dL_isCache_212 hl (by decide) rfl (fun ls hl => ?_)
                have e9 : oI (efR σ (i + 1)) = nI i := by rw [efR_s, hm9, c_11]; simp [endO, oI, c_13]
                have hl := lv_sub hl [1, 2, 3, 4, 5, 6, 7, 8, 9, 10, 11, 0, 12, 13, 14] rfl
                have hl : lv_has ls 17 [(0, .ref ax), (1, .ref (be 0)), (2, .ref (be 1)), (3, .ref (be 2)), (4, .ref (be 3)), (5, .ref (be 5)), (6, .ref (be 6)), (7, .ref (be 7)), (8, .ref (be 8)), (9, .int (nI a)), (10, .int (sumI (eF σ) (i + 1))), (11, .int (oI (efR σ (i + 1)))), (12, .int 1), (13, .int (nI i)), (14, .int (bI (gB σ 1 i)))] := by rw [e9]; exact hl
                exact B214 H locs ls hP hD hS hl
        have B169 : ∀ (H : Heap) (locs : List Loc) (ls : Array Slot), va_P D vwCl (lX be cI cJ (cW ax ar ad cO σ) (σ, ρ, γ)) H → va_D A (lX be cI cJ (cW ax ar ad cO σ) (σ, ρ, γ)) → va_S A s.heap H locs → lv_has ls 17 [(0, .ref ax), (1, .ref (be 0)), (2, .ref (be 1)), (3, .ref (be 2)), (4, .ref (be 3)), (5, .ref (be 5)), (6, .ref (be 6)), (7, .ref (be 7)), (8, .ref (be 8)), (9, .int (nI a)), (10, .int (sumI (eF σ) i)), (11, .int (oI (efR σ i))), (12, .int 1), (13, .int (nI i)), (14, .int (bI (gB σ 1 i)))] → W p l e (headSpec wsL_isCache ({ frames := 10, cells := 257, slots := 1542, locals := 220 } : Room)).room s m [.ref ax, .ref (be 0), .ref (be 1), .ref (be 2), .ref (be 3), .ref (be 5), .ref (be 6), .ref (be 7), .ref (be 8), .int (nI a)].toArray below meth c H locs (8 * i) (48 * i) (MQ below (va_Qi (fun (r : Int32) (u : LSt) => r = 1 ∧ u = (σ, ρ, γ)) (xB D (tX cI cJ (cT cO)) (lX be cI cJ (cW ax ar ad cO σ)) A) A) [.ref ax, .ref (be 0), .ref (be 1), .ref (be 2), .ref (be 3), .ref (be 5), .ref (be 6), .ref (be 7), .ref (be 8), .int (nI a)].toArray s 257 1542 A) (F0 m 169 ls []) := by
          intro H locs ls  hP hD hS hl
          refine lv_iload hx hb dL_isCache_169 (lv_at hl 10 rfl) ?_
          refine lv_iload hx hb dL_isCache_171 (lv_at hl 14 rfl) ?_
          refine x_ifeq (tgt := 180) hx hb dL_isCache_173 (by decide) (fun c_14 => ?_) (fun c_14 => ?_)
          · refine lv_iconst (v := 0) hx hb dL_isCache_180 (by decide) ?_
            refine lv_iadd hx hb dL_isCache_181 ?_
            refine lv_istore (lv' := [(10, .int ((sumI (eF σ) i) + 0)), (0, .ref ax), (1, .ref (be 0)), (2, .ref (be 1)), (3, .ref (be 2)), (4, .ref (be 3)), (5, .ref (be 5)), (6, .ref (be 6)), (7, .ref (be 7)), (8, .ref (be 8)), (9, .int (nI a)), (11, .int (oI (efR σ i))), (12, .int 1), (13, .int (nI i)), (14, .int (bI (gB σ 1 i)))]) hx hb dL_isCache_182 hl (by decide) rfl (fun ls hl => ?_)
            have e9 : sumI (eF σ) (i + 1) = (sumI (eF σ) i) + 0 := by rw [sumI_s, eF, c_14]; rfl
            have hl := lv_sub hl [1, 2, 3, 4, 5, 6, 7, 8, 9, 10, 0, 11, 12, 13, 14] rfl
            have hl : lv_has ls 17 [(0, .ref ax), (1, .ref (be 0)), (2, .ref (be 1)), (3, .ref (be 2)), (4, .ref (be 3)), (5, .ref (be 5)), (6, .ref (be 6)), (7, .ref (be 7)), (8, .ref (be 8)), (9, .int (nI a)), (10, .int (sumI (eF σ) (i + 1))), (11, .int (oI (efR σ i))), (12, .int 1), (13, .int (nI i)), (14, .int (bI (gB σ 1 i)))] := by rw [e9]; exact hl
            exact B184 H locs ls hP hD hS hl
          · refine lv_iconst (v := 1) hx hb dL_isCache_176 (by decide) ?_
            refine lv_goto (tgt := 181) hx hb dL_isCache_177 (by decide) ?_
            refine lv_iadd hx hb dL_isCache_181 ?_
            refine lv_istore (lv' := [(10, .int ((sumI (eF σ) i) + 1)), (0, .ref ax), (1, .ref (be 0)), (2, .ref (be 1)), (3, .ref (be 2)), (4, .ref (be 3)), (5, .ref (be 5)), (6, .ref (be 6)), (7, .ref (be 7)), (8, .ref (be 8)), (9, .int (nI a)), (11, .int (oI (efR σ i))), (12, .int 1), (13, .int (nI i)), (14, .int (bI (gB σ 1 i)))]) hx hb dL_isCache_182 hl (by decide) rfl (fun ls hl => ?_)
            have e9 : sumI (eF σ) (i + 1) = (sumI (eF σ) i) + 1 := by rw [sumI_s, eF, c_14]; rfl
            have hl := lv_sub hl [1, 2, 3, 4, 5, 6, 7, 8, 9, 10, 0, 11, 12, 13, 14] rfl
            have hl : lv_has ls 17 [(0, .ref ax), (1, .ref (be 0)), (2, .ref (be 1)), (3, .ref (be 2)), (4, .ref (be 3)), (5, .ref (be 5)), (6, .ref (be 6)), (7, .ref (be 7)), (8, .ref (be 8)), (9, .int (nI a)), (10, .int (sumI (eF σ) (i + 1))), (11, .int (oI (efR σ i))), (12, .int 1), (13, .int (nI i)), (14, .int (bI (gB σ 1 i)))] := by rw [e9]; exact hl
            exact B184 H locs ls hP hD hS hl
        refine lv_iload hx hb dL_isCache_150 (lv_at hl 12 rfl) ?_
        refine lv_if_eq (tgt := 430) hx hb dL_isCache_152 (by decide) (fun c_15 => absurd c_15 (by decide)) (fun _ => ?_)
        refine lv_aload_n hx hb dL_isCache_155 rfl (lv_at hl 1 rfl) ?_
        refine lv_iload hx hb dL_isCache_156 (lv_at hl 13 rfl) ?_
        refine l_ld0 hx hb hK hP hlt dL_isCache_158 ?_
        refine x_if_le (tgt := 166) hx hb dL_isCache_159 (by decide) (fun c_16 => ?_) (fun c_16 => ?_)
        · refine lv_iconst (v := 0) hx hb dL_isCache_166 (by decide) ?_
          refine lv_istore (lv' := [(14, .int 0), (0, .ref ax), (1, .ref (be 0)), (2, .ref (be 1)), (3, .ref (be 2)), (4, .ref (be 3)), (5, .ref (be 5)), (6, .ref (be 6)), (7, .ref (be 7)), (8, .ref (be 8)), (9, .int (nI a)), (10, .int (sumI (eF σ) i)), (11, .int (oI (efR σ i))), (12, .int 1), (13, .int (nI i))]) hx hb dL_isCache_167 hl (by decide) rfl (fun ls hl => ?_)
          have hb9 : gB σ 1 i = false := by cases h9 : gB σ 1 i with | false => rfl | true => exact absurd (hBt.mp h9) c_16
          have hl := lv_sub hl [1, 2, 3, 4, 5, 6, 7, 8, 9, 10, 11, 12, 13, 14, 0] rfl
          have hl : lv_has ls 17 [(0, .ref ax), (1, .ref (be 0)), (2, .ref (be 1)), (3, .ref (be 2)), (4, .ref (be 3)), (5, .ref (be 5)), (6, .ref (be 6)), (7, .ref (be 7)), (8, .ref (be 8)), (9, .int (nI a)), (10, .int (sumI (eF σ) i)), (11, .int (oI (efR σ i))), (12, .int 1), (13, .int (nI i)), (14, .int (bI (gB σ 1 i)))] := by rw [hb9]; exact hl
          exact B169 H locs ls hP hD hS hl
        · refine lv_iconst (v := 1) hx hb dL_isCache_162 (by decide) ?_
          refine lv_goto (tgt := 167) hx hb dL_isCache_163 (by decide) ?_
          refine lv_istore (lv' := [(14, .int 1), (0, .ref ax), (1, .ref (be 0)), (2, .ref (be 1)), (3, .ref (be 2)), (4, .ref (be 3)), (5, .ref (be 5)), (6, .ref (be 6)), (7, .ref (be 7)), (8, .ref (be 8)), (9, .int (nI a)), (10, .int (sumI (eF σ) i)), (11, .int (oI (efR σ i))), (12, .int 1), (13, .int (nI i))]) hx hb dL_isCache_167 hl (by decide) rfl (fun ls hl => ?_)
          have hb9 : gB σ 1 i = true := hBt.mpr c_16
          have hl := lv_sub hl [1, 2, 3, 4, 5, 6, 7, 8, 9, 10, 11, 12, 13, 14, 0] rfl
          have hl : lv_has ls 17 [(0, .ref ax), (1, .ref (be 0)), (2, .ref (be 1)), (3, .ref (be 2)), (4, .ref (be 3)), (5, .ref (be 5)), (6, .ref (be 6)), (7, .ref (be 7)), (8, .ref (be 8)), (9, .int (nI a)), (10, .int (sumI (eF σ) i)), (11, .int (oI (efR σ i))), (12, .int 1), (13, .int (nI i)), (14, .int (bI (gB σ 1 i)))] := by rw [hb9]; exact hl
          exact B169 H locs ls hP hD hS hl
  exact loop 33 0 ls H locs (by omega) (by omega) hP hD hS (lv_sub hl [4, 5, 6, 7, 8, 9, 10, 11, 12, 13, 3, 2, 1, 0] rfl)
