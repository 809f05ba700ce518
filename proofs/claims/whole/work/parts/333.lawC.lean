set_option maxHeartbeats 4000000 in
set_option maxRecDepth 100000 in
theorem c_frequencyOf {p : Program} {l : Launch} {e : Env} {s : State} {m : MethodId} {below : List Frame} {meth : Method} {c : Code} {H : Heap} {locs : List Loc} {cells slots : Nat} {Q : State → Prop} {ls : Array Slot} {A : Nat → Prop} {D : va_G} {cO cL cI cJ cZ : ClassId} {b L : Nat} {xs : Nat → Int32} {ax ar : Nat} {ad : Nat → Nat} {bo bx : Nat} {ba : Nat → Nat} {n i : Nat} {σ : St} {v : Int64} (C : LC p l s m meth c A D cO cL cI cJ cZ b L xs) (hn9 : n < 2 ^ 30) (hi : i + 5 ≤ L) (hcl : cells + 4 ≤ 637657) (hsl : slots + 24 ≤ 7183133) (hV : V n σ) (hP : va_P D vwCl (wA ax ar ad cO bo cL bx ba cI cJ cZ σ v) H) (hD : va_D A (wA ax ar ad cO bo cL bx ba cI cJ cZ σ v)) (hS : va_S A s.heap H locs) (hl : lv_has ls 8 [(4, .int (nI i)), (0, .ref b), (1, .ref ax), (2, .ref bx), (3, .ref bo)])
    (kk : ∀ (σ9 : St) (v9 : Int64) (H9 : Heap) (locs9 : List Loc) (ls9 : Array Slot), va_P D vwCl (wA ax ar ad cO bo cL bx ba cI cJ cZ σ9 v9) H9 → va_D A (wA ax ar ad cO bo cL bx ba cI cJ cZ σ9 v9) → va_S A s.heap H9 locs9 → V (n + 1) σ9 → lv_has ls9 8 [(4, .int (nI i)), (0, .ref b), (1, .ref ax), (2, .ref bx), (3, .ref bo)] → W p l e room_1 s m #[Value.ref b] below meth c H9 locs9 (cells + 4) (slots + 24) Q (F0 m 1278 ls9 [])) :
    W p l e room_1 s m #[Value.ref b] below meth c H locs cells slots Q (F0 m 770 ls []) := by
  obtain ⟨hx, hb, hml, hown, hts, hE, hK, hA, hX, hbl, hbA, hfl, hL, hlocks⟩ := C
  have hKw : va_K D vwCl (tL cO cL) s := hK.sub [0, 1] rfl
  have hKc : va_K D vwCl (cT cO) s := hK.sub [0] rfl
  have hKm : va_K D vwCl (mT cI cJ cZ) s := hK.sub [2, 3, 4] rfl
  have eS := Cq_w (Cq_20 (Cq.rf σ) 0) ax ar ad cO
  have hP : va_P D vwCl (wL ax ar ad cO bo cL ((uI σ 20 0), v) ++ mW bx ba cI cJ cZ σ) H := by show va_P D vwCl ((cW ax ar ad cO (uI σ 20 0) ++ oW bo cL v) ++ mW bx ba cI cJ cZ σ) H; rw [← eS]; exact hP
  have hD : va_D A (wL ax ar ad cO bo cL ((uI σ 20 0), v) ++ mW bx ba cI cJ cZ σ) := by show va_D A ((cW ax ar ad cO (uI σ 20 0) ++ oW bo cL v) ++ mW bx ba cI cJ cZ σ); rw [← eS]; exact hD
  refine lv_aload_n hx hb dL_law_770 rfl (lv_at hl 2 rfl) ?_
  refine s_arg (k := 1) hx hb hX hbl hbA hS hL (by omega) (lv_at hl 1 rfl) (lv_at hl 0 rfl) (by decide) dL_law_771 dL_law_772 dL_law_774 dL_law_775 dL_law_776 ?_
  refine lv_aload_n hx hb dL_law_777 rfl (lv_at hl 4 rfl) ?_
  refine f_calli (vx_runSW (As := [.ref ax, .int (xs (i + 1)), .ref bo]) (rest := []) ⟨hx, hb, hml, hown, hts⟩ (k_L_frequencyOf l D ax ar ad cO bo cL H.size (uI σ 20 0) v (xs (i + 1)) hfl) (vx_cwSW 3 hts gL_law_L_frequencyOf rfl rfl rfl (by decide +kernel) ⟨Nat.le_of_ble_eq_true rfl, Nat.le_of_ble_eq_true rfl⟩) (xPreS xE_ok hE hKw hA (P_l hP) (D_l hD) hS) rfl rfl hl.1 rfl (lv_room (Nat.le_of_ble_eq_true rfl)) dL_law_778 ⟨(by show cells + 1 ≤ 637657; omega), (by show slots + 6 ≤ 7183133; omega)⟩) hP hD hS hA (fun r u1 H locs h1 hP hD hS => ?_)
  refine lv_istore (lv' := [(5, .int r), (4, .int (nI i)), (0, .ref b), (1, .ref ax), (2, .ref bx), (3, .ref bo)]) hx hb dL_law_781 hl (by decide) rfl (fun ls hl => ?_)
  refine lv_aload_n hx hb dL_law_783 rfl (lv_at hl 4 rfl) ?_
  refine s_arg (k := 1) hx hb hX hbl hbA hS hL (by omega) (lv_at hl 2 rfl) (lv_at hl 1 rfl) (by decide) dL_law_784 dL_law_785 dL_law_787 dL_law_788 dL_law_789 ?_
  have hP := P_c hP
  have hD := D_c hD
  refine f_calli (va_runV (As := [.int (xs (i + 1))]) (rest := []) ⟨hx, hb, hml, hown, hts⟩ (k_X2_frequencyOf l D bx ba cI cJ cZ H.size σ (xs (i + 1))) (cwV 1 hts gL_law_X2_frequencyOf rfl rfl rfl (by decide +kernel) ⟨Nat.le_of_ble_eq_true rfl, Nat.le_of_ble_eq_true rfl⟩) (xPreV mE_ok trivial hKm hA (P_l hP) (D_l hD) hS (q0 := 0) (ci := 2) rfl rfl rfl) rfl rfl hl.1 rfl (lv_room (Nat.le_of_ble_eq_true rfl)) dL_law_790 ⟨(by show cells + 1 + 0 ≤ 637657; omega), (by show slots + 6 + 0 ≤ 7183133; omega)⟩) hP hD hS hA (fun r2 u2 H locs h2 hP hD hS => ?_)
  obtain ⟨g1, g2, g3, g4⟩ := g_frequencyOf hV h1 h2
  refine lv_istore (lv' := [(6, .int r2), (5, .int r), (4, .int (nI i)), (0, .ref b), (1, .ref ax), (2, .ref bx), (3, .ref bo)]) hx hb dL_law_793 hl (by decide) rfl (fun ls hl => ?_)
  refine lv_aload_n hx hb dL_law_795 rfl (lv_at hl 5 rfl) ?_
  refine f_calli (va_runV (As := []) (rest := []) ⟨hx, hb, hml, hown, hts⟩ (k_X2_thrown l D bx ba cI cJ cZ H.size u2) (cwV 0 hts gL_law_X2_thrown rfl rfl rfl (by decide +kernel) ⟨Nat.le_of_ble_eq_true rfl, Nat.le_of_ble_eq_true rfl⟩) (xPreV mE_ok trivial hKm hA (P_l hP) (D_l hD) hS (q0 := 0) (ci := 2) rfl rfl rfl) rfl rfl hl.1 rfl (lv_room (Nat.le_of_ble_eq_true rfl)) dL_law_796 ⟨(by show cells + 1 + 0 + 0 ≤ 637657; omega), (by show slots + 6 + 0 + 0 ≤ 7183133; omega)⟩) hP hD hS hA (fun r3 u3 H locs h3 hP hD hS => ?_)
  obtain ⟨e3, eu3⟩ := h3
  rw [eu3] at hP hD
  have hP := P_c hP
  have hD := D_c hD
  have eW := Cq_w g1 ax ar ad cO
  have hP : va_P D vwCl (wA ax ar ad cO bo cL bx ba cI cJ cZ u2 u1.2) H := by show va_P D vwCl ((cW ax ar ad cO u2 ++ oW bo cL u1.2) ++ mW bx ba cI cJ cZ u2) H; rw [← eW]; exact hP
  have hD : va_D A (wA ax ar ad cO bo cL bx ba cI cJ cZ u2 u1.2) := by show va_D A ((cW ax ar ad cO u2 ++ oW bo cL u1.2) ++ mW bx ba cI cJ cZ u2); rw [← eW]; exact hD
  refine W.widen (k := cells + 4) (n := slots + 24) (by omega) (by omega) ?_
  refine lv_iload hx hb dL_law_799 (lv_at hl 1 rfl) ?_
  refine lv_icmp_eq (tgt := 806) hx hb dL_law_801 (by decide) (fun _ => ?_) (fun q => absurd (e3.trans g3.symm) q)
  refine lv_iload hx hb dL_law_806 (lv_at hl 1 rfl) ?_
  refine lv_if_ne (tgt := 823) hx hb dL_law_808 (by decide) (fun _ => ?_) (fun q0 => ?_)
  · refine lv_goto (tgt := 1278) hx hb dL_law_823 (by decide) ?_
    exact kk u2 u1.2 _ _ _ hP hD hS g2 (lv_sub hl [2, 3, 4, 5, 6] rfl)
  · refine lv_aload_n hx hb dL_law_811 rfl (lv_at hl 6 rfl) ?_
    refine lv_iconst (v := 0) hx hb dL_law_812 (by decide) ?_
    refine va_lald hx hb hK (P_r (P_l hP)) 0 1 rfl rfl (by unfold vp_in; decide) dL_law_813 ?_
    refine lv_iload hx hb dL_law_814 (lv_at hl 0 rfl) ?_
    refine lv_i2l hx hb dL_law_816 rfl ?_
    refine x_eq (tgt := 823) hx hb dL_law_817 dL_law_818 (by decide) (fun _ => ?_) (fun q9 => absurd (g4 q0) q9)
    refine lv_goto (tgt := 1278) hx hb dL_law_823 (by decide) ?_
    exact kk u2 u1.2 _ _ _ hP hD hS g2 (lv_sub hl [2, 3, 4, 5, 6] rfl)

set_option maxHeartbeats 4000000 in
set_option maxRecDepth 100000 in
theorem c_worthOf {p : Program} {l : Launch} {e : Env} {s : State} {m : MethodId} {below : List Frame} {meth : Method} {c : Code} {H : Heap} {locs : List Loc} {cells slots : Nat} {Q : State → Prop} {ls : Array Slot} {A : Nat → Prop} {D : va_G} {cO cL cI cJ cZ : ClassId} {b L : Nat} {xs : Nat → Int32} {ax ar : Nat} {ad : Nat → Nat} {bo bx : Nat} {ba : Nat → Nat} {n i : Nat} {σ : St} {v : Int64} (C : LC p l s m meth c A D cO cL cI cJ cZ b L xs) (hn9 : n < 2 ^ 30) (hi : i + 5 ≤ L) (hcl : cells + 4 ≤ 637657) (hsl : slots + 24 ≤ 7183133) (hV : V n σ) (hP : va_P D vwCl (wA ax ar ad cO bo cL bx ba cI cJ cZ σ v) H) (hD : va_D A (wA ax ar ad cO bo cL bx ba cI cJ cZ σ v)) (hS : va_S A s.heap H locs) (hl : lv_has ls 8 [(4, .int (nI i)), (0, .ref b), (1, .ref ax), (2, .ref bx), (3, .ref bo)])
    (kk : ∀ (σ9 : St) (v9 : Int64) (H9 : Heap) (locs9 : List Loc) (ls9 : Array Slot), va_P D vwCl (wA ax ar ad cO bo cL bx ba cI cJ cZ σ9 v9) H9 → va_D A (wA ax ar ad cO bo cL bx ba cI cJ cZ σ9 v9) → va_S A s.heap H9 locs9 → V (n + 1) σ9 → lv_has ls9 8 [(4, .int (nI i)), (0, .ref b), (1, .ref ax), (2, .ref bx), (3, .ref bo)] → W p l e room_1 s m #[Value.ref b] below meth c H9 locs9 (cells + 4) (slots + 24) Q (F0 m 1278 ls9 [])) :
    W p l e room_1 s m #[Value.ref b] below meth c H locs cells slots Q (F0 m 826 ls []) := by
  obtain ⟨hx, hb, hml, hown, hts, hE, hK, hA, hX, hbl, hbA, hfl, hL, hlocks⟩ := C
  have hKw : va_K D vwCl (tL cO cL) s := hK.sub [0, 1] rfl
  have hKc : va_K D vwCl (cT cO) s := hK.sub [0] rfl
  have hKm : va_K D vwCl (mT cI cJ cZ) s := hK.sub [2, 3, 4] rfl
  have eS := Cq_w (Cq_20 (Cq.rf σ) 0) ax ar ad cO
  have hP : va_P D vwCl (wL ax ar ad cO bo cL ((uI σ 20 0), v) ++ mW bx ba cI cJ cZ σ) H := by show va_P D vwCl ((cW ax ar ad cO (uI σ 20 0) ++ oW bo cL v) ++ mW bx ba cI cJ cZ σ) H; rw [← eS]; exact hP
  have hD : va_D A (wL ax ar ad cO bo cL ((uI σ 20 0), v) ++ mW bx ba cI cJ cZ σ) := by show va_D A ((cW ax ar ad cO (uI σ 20 0) ++ oW bo cL v) ++ mW bx ba cI cJ cZ σ); rw [← eS]; exact hD
  refine lv_aload_n hx hb dL_law_826 rfl (lv_at hl 2 rfl) ?_
  refine s_arg (k := 1) hx hb hX hbl hbA hS hL (by omega) (lv_at hl 1 rfl) (lv_at hl 0 rfl) (by decide) dL_law_827 dL_law_828 dL_law_830 dL_law_831 dL_law_832 ?_
  refine lv_aload_n hx hb dL_law_833 rfl (lv_at hl 4 rfl) ?_
  refine f_calli (vx_runSW (As := [.ref ax, .int (xs (i + 1)), .ref bo]) (rest := []) ⟨hx, hb, hml, hown, hts⟩ (k_L_worthOf l D ax ar ad cO bo cL H.size (uI σ 20 0) v (xs (i + 1)) hfl) (vx_cwSW 3 hts gL_law_L_worthOf rfl rfl rfl (by decide +kernel) ⟨Nat.le_of_ble_eq_true rfl, Nat.le_of_ble_eq_true rfl⟩) (xPreS xE_ok hE hKw hA (P_l hP) (D_l hD) hS) rfl rfl hl.1 rfl (lv_room (Nat.le_of_ble_eq_true rfl)) dL_law_834 ⟨(by show cells + 1 ≤ 637657; omega), (by show slots + 6 ≤ 7183133; omega)⟩) hP hD hS hA (fun r u1 H locs h1 hP hD hS => ?_)
  refine lv_istore (lv' := [(5, .int r), (4, .int (nI i)), (0, .ref b), (1, .ref ax), (2, .ref bx), (3, .ref bo)]) hx hb dL_law_837 hl (by decide) rfl (fun ls hl => ?_)
  refine lv_aload_n hx hb dL_law_839 rfl (lv_at hl 4 rfl) ?_
  refine s_arg (k := 1) hx hb hX hbl hbA hS hL (by omega) (lv_at hl 2 rfl) (lv_at hl 1 rfl) (by decide) dL_law_840 dL_law_841 dL_law_843 dL_law_844 dL_law_845 ?_
  have hP := P_c hP
  have hD := D_c hD
  refine f_calll (va_runV (As := [.int (xs (i + 1))]) (rest := []) ⟨hx, hb, hml, hown, hts⟩ (k_X2_worthOf l D bx ba cI cJ cZ H.size σ (xs (i + 1))) (cwV 1 hts gL_law_X2_worthOf rfl rfl rfl (by decide +kernel) ⟨Nat.le_of_ble_eq_true rfl, Nat.le_of_ble_eq_true rfl⟩) (xPreV mE_ok trivial hKm hA (P_l hP) (D_l hD) hS (q0 := 0) (ci := 2) rfl rfl rfl) rfl rfl hl.1 rfl (lv_room (Nat.le_of_ble_eq_true rfl)) dL_law_846 ⟨(by show cells + 1 + 0 ≤ 637657; omega), (by show slots + 6 + 0 ≤ 7183133; omega)⟩) hP hD hS hA (fun r2 u2 H locs h2 hP hD hS => ?_)
  obtain ⟨g1, g2, g3, g4⟩ := g_worthOf hV h1 h2
  refine lv_lstore (lv' := [(6, .long r2), (5, .int r), (4, .int (nI i)), (0, .ref b), (1, .ref ax), (2, .ref bx), (3, .ref bo)]) hx hb dL_law_849 hl (by decide) rfl (fun ls hl => ?_)
  refine lv_aload_n hx hb dL_law_851 rfl (lv_at hl 5 rfl) ?_
  refine f_calli (va_runV (As := []) (rest := []) ⟨hx, hb, hml, hown, hts⟩ (k_X2_thrown l D bx ba cI cJ cZ H.size u2) (cwV 0 hts gL_law_X2_thrown rfl rfl rfl (by decide +kernel) ⟨Nat.le_of_ble_eq_true rfl, Nat.le_of_ble_eq_true rfl⟩) (xPreV mE_ok trivial hKm hA (P_l hP) (D_l hD) hS (q0 := 0) (ci := 2) rfl rfl rfl) rfl rfl hl.1 rfl (lv_room (Nat.le_of_ble_eq_true rfl)) dL_law_852 ⟨(by show cells + 1 + 0 + 0 ≤ 637657; omega), (by show slots + 6 + 0 + 0 ≤ 7183133; omega)⟩) hP hD hS hA (fun r3 u3 H locs h3 hP hD hS => ?_)
  obtain ⟨e3, eu3⟩ := h3
  rw [eu3] at hP hD
  have hP := P_c hP
  have hD := D_c hD
  have eW := Cq_w g1 ax ar ad cO
  have hP : va_P D vwCl (wA ax ar ad cO bo cL bx ba cI cJ cZ u2 u1.2) H := by show va_P D vwCl ((cW ax ar ad cO u2 ++ oW bo cL u1.2) ++ mW bx ba cI cJ cZ u2) H; rw [← eW]; exact hP
  have hD : va_D A (wA ax ar ad cO bo cL bx ba cI cJ cZ u2 u1.2) := by show va_D A ((cW ax ar ad cO u2 ++ oW bo cL u1.2) ++ mW bx ba cI cJ cZ u2); rw [← eW]; exact hD
  refine W.widen (k := cells + 4) (n := slots + 24) (by omega) (by omega) ?_
  refine lv_iload hx hb dL_law_855 (lv_at hl 1 rfl) ?_
  refine lv_icmp_eq (tgt := 862) hx hb dL_law_857 (by decide) (fun _ => ?_) (fun q => absurd (e3.trans g3.symm) q)
  refine lv_iload hx hb dL_law_862 (lv_at hl 1 rfl) ?_
  refine lv_if_ne (tgt := 878) hx hb dL_law_864 (by decide) (fun _ => ?_) (fun q0 => ?_)
  · refine lv_goto (tgt := 1278) hx hb dL_law_878 (by decide) ?_
    exact kk u2 u1.2 _ _ _ hP hD hS g2 (lv_sub hl [2, 3, 4, 5, 6] rfl)
  · refine lv_aload_n hx hb dL_law_867 rfl (lv_at hl 6 rfl) ?_
    refine lv_iconst (v := 0) hx hb dL_law_868 (by decide) ?_
    refine va_lald hx hb hK (P_r (P_l hP)) 0 1 rfl rfl (by unfold vp_in; decide) dL_law_869 ?_
    refine lv_lload hx hb dL_law_870 (lv_at hl 0 rfl) ?_
    refine x_eq (tgt := 878) hx hb dL_law_872 dL_law_873 (by decide) (fun _ => ?_) (fun q9 => absurd (g4 q0) q9)
    refine lv_goto (tgt := 1278) hx hb dL_law_878 (by decide) ?_
    exact kk u2 u1.2 _ _ _ hP hD hS g2 (lv_sub hl [2, 3, 4, 5, 6] rfl)

set_option maxHeartbeats 4000000 in
set_option maxRecDepth 100000 in
theorem c_endOf {p : Program} {l : Launch} {e : Env} {s : State} {m : MethodId} {below : List Frame} {meth : Method} {c : Code} {H : Heap} {locs : List Loc} {cells slots : Nat} {Q : State → Prop} {ls : Array Slot} {A : Nat → Prop} {D : va_G} {cO cL cI cJ cZ : ClassId} {b L : Nat} {xs : Nat → Int32} {ax ar : Nat} {ad : Nat → Nat} {bo bx : Nat} {ba : Nat → Nat} {n i : Nat} {σ : St} {v : Int64} (C : LC p l s m meth c A D cO cL cI cJ cZ b L xs) (hn9 : n < 2 ^ 30) (hi : i + 5 ≤ L) (hcl : cells + 4 ≤ 637657) (hsl : slots + 24 ≤ 7183133) (hV : V n σ) (hP : va_P D vwCl (wA ax ar ad cO bo cL bx ba cI cJ cZ σ v) H) (hD : va_D A (wA ax ar ad cO bo cL bx ba cI cJ cZ σ v)) (hS : va_S A s.heap H locs) (hl : lv_has ls 8 [(4, .int (nI i)), (0, .ref b), (1, .ref ax), (2, .ref bx), (3, .ref bo)])
    (kk : ∀ (σ9 : St) (v9 : Int64) (H9 : Heap) (locs9 : List Loc) (ls9 : Array Slot), va_P D vwCl (wA ax ar ad cO bo cL bx ba cI cJ cZ σ9 v9) H9 → va_D A (wA ax ar ad cO bo cL bx ba cI cJ cZ σ9 v9) → va_S A s.heap H9 locs9 → V (n + 1) σ9 → lv_has ls9 8 [(4, .int (nI i)), (0, .ref b), (1, .ref ax), (2, .ref bx), (3, .ref bo)] → W p l e room_1 s m #[Value.ref b] below meth c H9 locs9 (cells + 4) (slots + 24) Q (F0 m 1278 ls9 [])) :
    W p l e room_1 s m #[Value.ref b] below meth c H locs cells slots Q (F0 m 881 ls []) := by
  obtain ⟨hx, hb, hml, hown, hts, hE, hK, hA, hX, hbl, hbA, hfl, hL, hlocks⟩ := C
  have hKw : va_K D vwCl (tL cO cL) s := hK.sub [0, 1] rfl
  have hKc : va_K D vwCl (cT cO) s := hK.sub [0] rfl
  have hKm : va_K D vwCl (mT cI cJ cZ) s := hK.sub [2, 3, 4] rfl
  have eS := Cq_w (Cq_20 (Cq.rf σ) 0) ax ar ad cO
  have hP : va_P D vwCl (wL ax ar ad cO bo cL ((uI σ 20 0), v) ++ mW bx ba cI cJ cZ σ) H := by show va_P D vwCl ((cW ax ar ad cO (uI σ 20 0) ++ oW bo cL v) ++ mW bx ba cI cJ cZ σ) H; rw [← eS]; exact hP
  have hD : va_D A (wL ax ar ad cO bo cL ((uI σ 20 0), v) ++ mW bx ba cI cJ cZ σ) := by show va_D A ((cW ax ar ad cO (uI σ 20 0) ++ oW bo cL v) ++ mW bx ba cI cJ cZ σ); rw [← eS]; exact hD
  refine lv_aload_n hx hb dL_law_881 rfl (lv_at hl 2 rfl) ?_
  refine s_arg (k := 1) hx hb hX hbl hbA hS hL (by omega) (lv_at hl 1 rfl) (lv_at hl 0 rfl) (by decide) dL_law_882 dL_law_883 dL_law_885 dL_law_886 dL_law_887 ?_
  refine lv_aload_n hx hb dL_law_888 rfl (lv_at hl 4 rfl) ?_
  refine f_calli (vx_runSW (As := [.ref ax, .int (xs (i + 1)), .ref bo]) (rest := []) ⟨hx, hb, hml, hown, hts⟩ (k_L_endOf l D ax ar ad cO bo cL H.size (uI σ 20 0) v (xs (i + 1)) hfl) (vx_cwSW 3 hts gL_law_L_endOf rfl rfl rfl (by decide +kernel) ⟨Nat.le_of_ble_eq_true rfl, Nat.le_of_ble_eq_true rfl⟩) (xPreS xE_ok hE hKw hA (P_l hP) (D_l hD) hS) rfl rfl hl.1 rfl (lv_room (Nat.le_of_ble_eq_true rfl)) dL_law_889 ⟨(by show cells + 1 ≤ 637657; omega), (by show slots + 6 ≤ 7183133; omega)⟩) hP hD hS hA (fun r u1 H locs h1 hP hD hS => ?_)
  refine lv_istore (lv' := [(5, .int r), (4, .int (nI i)), (0, .ref b), (1, .ref ax), (2, .ref bx), (3, .ref bo)]) hx hb dL_law_892 hl (by decide) rfl (fun ls hl => ?_)
  refine lv_aload_n hx hb dL_law_894 rfl (lv_at hl 4 rfl) ?_
  refine s_arg (k := 1) hx hb hX hbl hbA hS hL (by omega) (lv_at hl 2 rfl) (lv_at hl 1 rfl) (by decide) dL_law_895 dL_law_896 dL_law_898 dL_law_899 dL_law_900 ?_
  have hP := P_c hP
  have hD := D_c hD
  refine f_calli (va_runV (As := [.int (xs (i + 1))]) (rest := []) ⟨hx, hb, hml, hown, hts⟩ (k_X2_endOf l D bx ba cI cJ cZ H.size σ (xs (i + 1))) (cwV 1 hts gL_law_X2_endOf rfl rfl rfl (by decide +kernel) ⟨Nat.le_of_ble_eq_true rfl, Nat.le_of_ble_eq_true rfl⟩) (xPreV mE_ok trivial hKm hA (P_l hP) (D_l hD) hS (q0 := 0) (ci := 2) rfl rfl rfl) rfl rfl hl.1 rfl (lv_room (Nat.le_of_ble_eq_true rfl)) dL_law_901 ⟨(by show cells + 1 + 0 ≤ 637657; omega), (by show slots + 6 + 0 ≤ 7183133; omega)⟩) hP hD hS hA (fun r2 u2 H locs h2 hP hD hS => ?_)
  obtain ⟨g1, g2, g3, g4⟩ := g_endOf hV h1 h2
  refine lv_istore (lv' := [(6, .int r2), (5, .int r), (4, .int (nI i)), (0, .ref b), (1, .ref ax), (2, .ref bx), (3, .ref bo)]) hx hb dL_law_904 hl (by decide) rfl (fun ls hl => ?_)
  refine lv_aload_n hx hb dL_law_906 rfl (lv_at hl 5 rfl) ?_
  refine f_calli (va_runV (As := []) (rest := []) ⟨hx, hb, hml, hown, hts⟩ (k_X2_thrown l D bx ba cI cJ cZ H.size u2) (cwV 0 hts gL_law_X2_thrown rfl rfl rfl (by decide +kernel) ⟨Nat.le_of_ble_eq_true rfl, Nat.le_of_ble_eq_true rfl⟩) (xPreV mE_ok trivial hKm hA (P_l hP) (D_l hD) hS (q0 := 0) (ci := 2) rfl rfl rfl) rfl rfl hl.1 rfl (lv_room (Nat.le_of_ble_eq_true rfl)) dL_law_907 ⟨(by show cells + 1 + 0 + 0 ≤ 637657; omega), (by show slots + 6 + 0 + 0 ≤ 7183133; omega)⟩) hP hD hS hA (fun r3 u3 H locs h3 hP hD hS => ?_)
  obtain ⟨e3, eu3⟩ := h3
  rw [eu3] at hP hD
  have hP := P_c hP
  have hD := D_c hD
  have eW := Cq_w g1 ax ar ad cO
  have hP : va_P D vwCl (wA ax ar ad cO bo cL bx ba cI cJ cZ u2 u1.2) H := by show va_P D vwCl ((cW ax ar ad cO u2 ++ oW bo cL u1.2) ++ mW bx ba cI cJ cZ u2) H; rw [← eW]; exact hP
  have hD : va_D A (wA ax ar ad cO bo cL bx ba cI cJ cZ u2 u1.2) := by show va_D A ((cW ax ar ad cO u2 ++ oW bo cL u1.2) ++ mW bx ba cI cJ cZ u2); rw [← eW]; exact hD
  refine W.widen (k := cells + 4) (n := slots + 24) (by omega) (by omega) ?_
  refine lv_iload hx hb dL_law_910 (lv_at hl 1 rfl) ?_
  refine lv_icmp_eq (tgt := 917) hx hb dL_law_912 (by decide) (fun _ => ?_) (fun q => absurd (e3.trans g3.symm) q)
  refine lv_iload hx hb dL_law_917 (lv_at hl 1 rfl) ?_
  refine lv_if_ne (tgt := 934) hx hb dL_law_919 (by decide) (fun _ => ?_) (fun q0 => ?_)
  · refine lv_goto (tgt := 1278) hx hb dL_law_934 (by decide) ?_
    exact kk u2 u1.2 _ _ _ hP hD hS g2 (lv_sub hl [2, 3, 4, 5, 6] rfl)
  · refine lv_aload_n hx hb dL_law_922 rfl (lv_at hl 6 rfl) ?_
    refine lv_iconst (v := 0) hx hb dL_law_923 (by decide) ?_
    refine va_lald hx hb hK (P_r (P_l hP)) 0 1 rfl rfl (by unfold vp_in; decide) dL_law_924 ?_
    refine lv_iload hx hb dL_law_925 (lv_at hl 0 rfl) ?_
    refine lv_i2l hx hb dL_law_927 rfl ?_
    refine x_eq (tgt := 934) hx hb dL_law_928 dL_law_929 (by decide) (fun _ => ?_) (fun q9 => absurd (g4 q0) q9)
    refine lv_goto (tgt := 1278) hx hb dL_law_934 (by decide) ?_
    exact kk u2 u1.2 _ _ _ hP hD hS g2 (lv_sub hl [2, 3, 4, 5, 6] rfl)

set_option maxHeartbeats 4000000 in
set_option maxRecDepth 100000 in
theorem c_leaving {p : Program} {l : Launch} {e : Env} {s : State} {m : MethodId} {below : List Frame} {meth : Method} {c : Code} {H : Heap} {locs : List Loc} {cells slots : Nat} {Q : State → Prop} {ls : Array Slot} {A : Nat → Prop} {D : va_G} {cO cL cI cJ cZ : ClassId} {b L : Nat} {xs : Nat → Int32} {ax ar : Nat} {ad : Nat → Nat} {bo bx : Nat} {ba : Nat → Nat} {n i : Nat} {σ : St} {v : Int64} (C : LC p l s m meth c A D cO cL cI cJ cZ b L xs) (hn9 : n < 2 ^ 30) (hi : i + 5 ≤ L) (hcl : cells + 4 ≤ 637657) (hsl : slots + 24 ≤ 7183133) (hV : V n σ) (hP : va_P D vwCl (wA ax ar ad cO bo cL bx ba cI cJ cZ σ v) H) (hD : va_D A (wA ax ar ad cO bo cL bx ba cI cJ cZ σ v)) (hS : va_S A s.heap H locs) (hl : lv_has ls 8 [(4, .int (nI i)), (0, .ref b), (1, .ref ax), (2, .ref bx), (3, .ref bo)])
    (kk : ∀ (σ9 : St) (v9 : Int64) (H9 : Heap) (locs9 : List Loc) (ls9 : Array Slot), va_P D vwCl (wA ax ar ad cO bo cL bx ba cI cJ cZ σ9 v9) H9 → va_D A (wA ax ar ad cO bo cL bx ba cI cJ cZ σ9 v9) → va_S A s.heap H9 locs9 → V (n + 1) σ9 → lv_has ls9 8 [(4, .int (nI i)), (0, .ref b), (1, .ref ax), (2, .ref bx), (3, .ref bo)] → W p l e room_1 s m #[Value.ref b] below meth c H9 locs9 (cells + 4) (slots + 24) Q (F0 m 1278 ls9 [])) :
    W p l e room_1 s m #[Value.ref b] below meth c H locs cells slots Q (F0 m 937 ls []) := by
  obtain ⟨hx, hb, hml, hown, hts, hE, hK, hA, hX, hbl, hbA, hfl, hL, hlocks⟩ := C
  have hKw : va_K D vwCl (tL cO cL) s := hK.sub [0, 1] rfl
  have hKc : va_K D vwCl (cT cO) s := hK.sub [0] rfl
  have hKm : va_K D vwCl (mT cI cJ cZ) s := hK.sub [2, 3, 4] rfl
  obtain ⟨N, ⟨hN1, hN2, hN3⟩, hg⟩ := g_leaving (v := v) (t := (xs (i + 1))) hV hn9
  have eS := Cq_w (Cq_20 (Cq.rf σ) 0) ax ar ad cO
  have hP : va_P D vwCl (wL ax ar ad cO bo cL ((uI σ 20 0), v) ++ mW bx ba cI cJ cZ σ) H := by show va_P D vwCl ((cW ax ar ad cO (uI σ 20 0) ++ oW bo cL v) ++ mW bx ba cI cJ cZ σ) H; rw [← eS]; exact hP
  have hD : va_D A (wL ax ar ad cO bo cL ((uI σ 20 0), v) ++ mW bx ba cI cJ cZ σ) := by show va_D A ((cW ax ar ad cO (uI σ 20 0) ++ oW bo cL v) ++ mW bx ba cI cJ cZ σ); rw [← eS]; exact hD
  refine lv_aload_n hx hb dL_law_937 rfl (lv_at hl 2 rfl) ?_
  refine s_arg (k := 1) hx hb hX hbl hbA hS hL (by omega) (lv_at hl 1 rfl) (lv_at hl 0 rfl) (by decide) dL_law_938 dL_law_939 dL_law_941 dL_law_942 dL_law_943 ?_
  refine lv_aload_n hx hb dL_law_944 rfl (lv_at hl 4 rfl) ?_
  refine f_calli (vx_runSW (As := [.ref ax, .int (xs (i + 1)), .ref bo]) (rest := []) ⟨hx, hb, hml, hown, hts⟩ (k_L_leaving l D ax ar ad cO bo cL H.size (uI σ 20 0) v (xs (i + 1)) N hN1 hN2 hN3 hfl) (vx_cwSW 3 hts gL_law_L_leaving rfl rfl rfl (by decide +kernel) ⟨Nat.le_of_ble_eq_true rfl, Nat.le_of_ble_eq_true rfl⟩) (xPreS xE_ok hE hKw hA (P_l hP) (D_l hD) hS) rfl rfl hl.1 rfl (lv_room (Nat.le_of_ble_eq_true rfl)) dL_law_945 ⟨(by show cells + 1 ≤ 637657; omega), (by show slots + 6 ≤ 7183133; omega)⟩) hP hD hS hA (fun r u1 H locs h1 hP hD hS => ?_)
  refine lv_istore (lv' := [(5, .int r), (4, .int (nI i)), (0, .ref b), (1, .ref ax), (2, .ref bx), (3, .ref bo)]) hx hb dL_law_948 hl (by decide) rfl (fun ls hl => ?_)
  refine lv_aload_n hx hb dL_law_950 rfl (lv_at hl 4 rfl) ?_
  refine s_arg (k := 1) hx hb hX hbl hbA hS hL (by omega) (lv_at hl 2 rfl) (lv_at hl 1 rfl) (by decide) dL_law_951 dL_law_952 dL_law_954 dL_law_955 dL_law_956 ?_
  have hP := P_c hP
  have hD := D_c hD
  refine f_calli (va_runV (As := [.int (xs (i + 1))]) (rest := []) ⟨hx, hb, hml, hown, hts⟩ (k_X2_leaving l D bx ba cI cJ cZ H.size σ (xs (i + 1))) (cwV 1 hts gL_law_X2_leaving rfl rfl rfl (by decide +kernel) ⟨Nat.le_of_ble_eq_true rfl, Nat.le_of_ble_eq_true rfl⟩) (xPreV mE_ok trivial hKm hA (P_l hP) (D_l hD) hS (q0 := 0) (ci := 2) rfl rfl rfl) rfl rfl hl.1 rfl (lv_room (Nat.le_of_ble_eq_true rfl)) dL_law_957 ⟨(by show cells + 1 + 0 ≤ 637657; omega), (by show slots + 6 + 0 ≤ 7183133; omega)⟩) hP hD hS hA (fun r2 u2 H locs h2 hP hD hS => ?_)
  obtain ⟨g1, g2, g3, g4⟩ := hg r u1 r2 u2 h1 h2
  refine lv_istore (lv' := [(6, .int r2), (5, .int r), (4, .int (nI i)), (0, .ref b), (1, .ref ax), (2, .ref bx), (3, .ref bo)]) hx hb dL_law_960 hl (by decide) rfl (fun ls hl => ?_)
  refine lv_aload_n hx hb dL_law_962 rfl (lv_at hl 5 rfl) ?_
  refine f_calli (va_runV (As := []) (rest := []) ⟨hx, hb, hml, hown, hts⟩ (k_X2_thrown l D bx ba cI cJ cZ H.size u2) (cwV 0 hts gL_law_X2_thrown rfl rfl rfl (by decide +kernel) ⟨Nat.le_of_ble_eq_true rfl, Nat.le_of_ble_eq_true rfl⟩) (xPreV mE_ok trivial hKm hA (P_l hP) (D_l hD) hS (q0 := 0) (ci := 2) rfl rfl rfl) rfl rfl hl.1 rfl (lv_room (Nat.le_of_ble_eq_true rfl)) dL_law_963 ⟨(by show cells + 1 + 0 + 0 ≤ 637657; omega), (by show slots + 6 + 0 + 0 ≤ 7183133; omega)⟩) hP hD hS hA (fun r3 u3 H locs h3 hP hD hS => ?_)
  obtain ⟨e3, eu3⟩ := h3
  rw [eu3] at hP hD
  have hP := P_c hP
  have hD := D_c hD
  have eW := Cq_w g1 ax ar ad cO
  have hP : va_P D vwCl (wA ax ar ad cO bo cL bx ba cI cJ cZ u2 u1.2) H := by show va_P D vwCl ((cW ax ar ad cO u2 ++ oW bo cL u1.2) ++ mW bx ba cI cJ cZ u2) H; rw [← eW]; exact hP
  have hD : va_D A (wA ax ar ad cO bo cL bx ba cI cJ cZ u2 u1.2) := by show va_D A ((cW ax ar ad cO u2 ++ oW bo cL u1.2) ++ mW bx ba cI cJ cZ u2); rw [← eW]; exact hD
  refine W.widen (k := cells + 4) (n := slots + 24) (by omega) (by omega) ?_
  refine lv_iload hx hb dL_law_966 (lv_at hl 1 rfl) ?_
  refine lv_icmp_eq (tgt := 973) hx hb dL_law_968 (by decide) (fun _ => ?_) (fun q => absurd (e3.trans g3.symm) q)
  refine lv_iload hx hb dL_law_973 (lv_at hl 1 rfl) ?_
  refine lv_if_ne (tgt := 990) hx hb dL_law_975 (by decide) (fun _ => ?_) (fun q0 => ?_)
  · refine lv_goto (tgt := 1278) hx hb dL_law_990 (by decide) ?_
    exact kk u2 u1.2 _ _ _ hP hD hS g2 (lv_sub hl [2, 3, 4, 5, 6] rfl)
  · refine lv_aload_n hx hb dL_law_978 rfl (lv_at hl 6 rfl) ?_
    refine lv_iconst (v := 0) hx hb dL_law_979 (by decide) ?_
    refine va_lald hx hb hK (P_r (P_l hP)) 0 1 rfl rfl (by unfold vp_in; decide) dL_law_980 ?_
    refine lv_iload hx hb dL_law_981 (lv_at hl 0 rfl) ?_
    refine lv_i2l hx hb dL_law_983 rfl ?_
    refine x_eq (tgt := 990) hx hb dL_law_984 dL_law_985 (by decide) (fun _ => ?_) (fun q9 => absurd (g4 q0) q9)
    refine lv_goto (tgt := 1278) hx hb dL_law_990 (by decide) ?_
    exact kk u2 u1.2 _ _ _ hP hD hS g2 (lv_sub hl [2, 3, 4, 5, 6] rfl)

set_option maxHeartbeats 4000000 in
set_option maxRecDepth 100000 in
theorem c_placeOf {p : Program} {l : Launch} {e : Env} {s : State} {m : MethodId} {below : List Frame} {meth : Method} {c : Code} {H : Heap} {locs : List Loc} {cells slots : Nat} {Q : State → Prop} {ls : Array Slot} {A : Nat → Prop} {D : va_G} {cO cL cI cJ cZ : ClassId} {b L : Nat} {xs : Nat → Int32} {ax ar : Nat} {ad : Nat → Nat} {bo bx : Nat} {ba : Nat → Nat} {n i : Nat} {σ : St} {v : Int64} (C : LC p l s m meth c A D cO cL cI cJ cZ b L xs) (hn9 : n < 2 ^ 30) (hi : i + 5 ≤ L) (hcl : cells + 4 ≤ 637657) (hsl : slots + 24 ≤ 7183133) (hV : V n σ) (hP : va_P D vwCl (wA ax ar ad cO bo cL bx ba cI cJ cZ σ v) H) (hD : va_D A (wA ax ar ad cO bo cL bx ba cI cJ cZ σ v)) (hS : va_S A s.heap H locs) (hl : lv_has ls 8 [(4, .int (nI i)), (0, .ref b), (1, .ref ax), (2, .ref bx), (3, .ref bo)])
    (kk : ∀ (σ9 : St) (v9 : Int64) (H9 : Heap) (locs9 : List Loc) (ls9 : Array Slot), va_P D vwCl (wA ax ar ad cO bo cL bx ba cI cJ cZ σ9 v9) H9 → va_D A (wA ax ar ad cO bo cL bx ba cI cJ cZ σ9 v9) → va_S A s.heap H9 locs9 → V (n + 1) σ9 → lv_has ls9 8 [(4, .int (nI i)), (0, .ref b), (1, .ref ax), (2, .ref bx), (3, .ref bo)] → W p l e room_1 s m #[Value.ref b] below meth c H9 locs9 (cells + 4) (slots + 24) Q (F0 m 1278 ls9 [])) :
    W p l e room_1 s m #[Value.ref b] below meth c H locs cells slots Q (F0 m 993 ls []) := by
  obtain ⟨hx, hb, hml, hown, hts, hE, hK, hA, hX, hbl, hbA, hfl, hL, hlocks⟩ := C
  have hKw : va_K D vwCl (tL cO cL) s := hK.sub [0, 1] rfl
  have hKc : va_K D vwCl (cT cO) s := hK.sub [0] rfl
  have hKm : va_K D vwCl (mT cI cJ cZ) s := hK.sub [2, 3, 4] rfl
  have eS := Cq_w (Cq_20 (Cq.rf σ) 0) ax ar ad cO
  have hP : va_P D vwCl (wL ax ar ad cO bo cL ((uI σ 20 0), v) ++ mW bx ba cI cJ cZ σ) H := by show va_P D vwCl ((cW ax ar ad cO (uI σ 20 0) ++ oW bo cL v) ++ mW bx ba cI cJ cZ σ) H; rw [← eS]; exact hP
  have hD : va_D A (wL ax ar ad cO bo cL ((uI σ 20 0), v) ++ mW bx ba cI cJ cZ σ) := by show va_D A ((cW ax ar ad cO (uI σ 20 0) ++ oW bo cL v) ++ mW bx ba cI cJ cZ σ); rw [← eS]; exact hD
  refine lv_aload_n hx hb dL_law_993 rfl (lv_at hl 2 rfl) ?_
  refine s_arg (k := 1) hx hb hX hbl hbA hS hL (by omega) (lv_at hl 1 rfl) (lv_at hl 0 rfl) (by decide) dL_law_994 dL_law_995 dL_law_997 dL_law_998 dL_law_999 ?_
  refine lv_aload_n hx hb dL_law_1000 rfl (lv_at hl 4 rfl) ?_
  refine f_calli (vx_runSW (As := [.ref ax, .int (xs (i + 1)), .ref bo]) (rest := []) ⟨hx, hb, hml, hown, hts⟩ (k_L_placeOf l D ax ar ad cO bo cL H.size (uI σ 20 0) v (xs (i + 1)) hfl) (vx_cwSW 3 hts gL_law_L_placeOf rfl rfl rfl (by decide +kernel) ⟨Nat.le_of_ble_eq_true rfl, Nat.le_of_ble_eq_true rfl⟩) (xPreS xE_ok hE hKw hA (P_l hP) (D_l hD) hS) rfl rfl hl.1 rfl (lv_room (Nat.le_of_ble_eq_true rfl)) dL_law_1001 ⟨(by show cells + 1 ≤ 637657; omega), (by show slots + 6 ≤ 7183133; omega)⟩) hP hD hS hA (fun r u1 H locs h1 hP hD hS => ?_)
  refine lv_istore (lv' := [(5, .int r), (4, .int (nI i)), (0, .ref b), (1, .ref ax), (2, .ref bx), (3, .ref bo)]) hx hb dL_law_1004 hl (by decide) rfl (fun ls hl => ?_)
  refine lv_aload_n hx hb dL_law_1006 rfl (lv_at hl 4 rfl) ?_
  refine s_arg (k := 1) hx hb hX hbl hbA hS hL (by omega) (lv_at hl 2 rfl) (lv_at hl 1 rfl) (by decide) dL_law_1007 dL_law_1008 dL_law_1010 dL_law_1011 dL_law_1012 ?_
  have hP := P_c hP
  have hD := D_c hD
  refine f_calli (va_runV (As := [.int (xs (i + 1))]) (rest := []) ⟨hx, hb, hml, hown, hts⟩ (k_X2_placeOf l D bx ba cI cJ cZ H.size σ (xs (i + 1))) (cwV 1 hts gL_law_X2_placeOf rfl rfl rfl (by decide +kernel) ⟨Nat.le_of_ble_eq_true rfl, Nat.le_of_ble_eq_true rfl⟩) (xPreV mE_ok trivial hKm hA (P_l hP) (D_l hD) hS (q0 := 0) (ci := 2) rfl rfl rfl) rfl rfl hl.1 rfl (lv_room (Nat.le_of_ble_eq_true rfl)) dL_law_1013 ⟨(by show cells + 1 + 0 ≤ 637657; omega), (by show slots + 6 + 0 ≤ 7183133; omega)⟩) hP hD hS hA (fun r2 u2 H locs h2 hP hD hS => ?_)
  obtain ⟨g1, g2, g3, g4⟩ := g_placeOf hV h1 h2
  refine lv_istore (lv' := [(6, .int r2), (5, .int r), (4, .int (nI i)), (0, .ref b), (1, .ref ax), (2, .ref bx), (3, .ref bo)]) hx hb dL_law_1016 hl (by decide) rfl (fun ls hl => ?_)
  refine lv_aload_n hx hb dL_law_1018 rfl (lv_at hl 5 rfl) ?_
  refine f_calli (va_runV (As := []) (rest := []) ⟨hx, hb, hml, hown, hts⟩ (k_X2_thrown l D bx ba cI cJ cZ H.size u2) (cwV 0 hts gL_law_X2_thrown rfl rfl rfl (by decide +kernel) ⟨Nat.le_of_ble_eq_true rfl, Nat.le_of_ble_eq_true rfl⟩) (xPreV mE_ok trivial hKm hA (P_l hP) (D_l hD) hS (q0 := 0) (ci := 2) rfl rfl rfl) rfl rfl hl.1 rfl (lv_room (Nat.le_of_ble_eq_true rfl)) dL_law_1019 ⟨(by show cells + 1 + 0 + 0 ≤ 637657; omega), (by show slots + 6 + 0 + 0 ≤ 7183133; omega)⟩) hP hD hS hA (fun r3 u3 H locs h3 hP hD hS => ?_)
  obtain ⟨e3, eu3⟩ := h3
  rw [eu3] at hP hD
  have hP := P_c hP
  have hD := D_c hD
  have eW := Cq_w g1 ax ar ad cO
  have hP : va_P D vwCl (wA ax ar ad cO bo cL bx ba cI cJ cZ u2 u1.2) H := by show va_P D vwCl ((cW ax ar ad cO u2 ++ oW bo cL u1.2) ++ mW bx ba cI cJ cZ u2) H; rw [← eW]; exact hP
  have hD : va_D A (wA ax ar ad cO bo cL bx ba cI cJ cZ u2 u1.2) := by show va_D A ((cW ax ar ad cO u2 ++ oW bo cL u1.2) ++ mW bx ba cI cJ cZ u2); rw [← eW]; exact hD
  refine W.widen (k := cells + 4) (n := slots + 24) (by omega) (by omega) ?_
  refine lv_iload hx hb dL_law_1022 (lv_at hl 1 rfl) ?_
  refine lv_icmp_eq (tgt := 1029) hx hb dL_law_1024 (by decide) (fun _ => ?_) (fun q => absurd (e3.trans g3.symm) q)
  refine lv_iload hx hb dL_law_1029 (lv_at hl 1 rfl) ?_
  refine lv_if_ne (tgt := 1046) hx hb dL_law_1031 (by decide) (fun _ => ?_) (fun q0 => ?_)
  · refine lv_goto (tgt := 1278) hx hb dL_law_1046 (by decide) ?_
    exact kk u2 u1.2 _ _ _ hP hD hS g2 (lv_sub hl [2, 3, 4, 5, 6] rfl)
  · refine lv_aload_n hx hb dL_law_1034 rfl (lv_at hl 6 rfl) ?_
    refine lv_iconst (v := 0) hx hb dL_law_1035 (by decide) ?_
    refine va_lald hx hb hK (P_r (P_l hP)) 0 1 rfl rfl (by unfold vp_in; decide) dL_law_1036 ?_
    refine lv_iload hx hb dL_law_1037 (lv_at hl 0 rfl) ?_
    refine lv_i2l hx hb dL_law_1039 rfl ?_
    refine x_eq (tgt := 1046) hx hb dL_law_1040 dL_law_1041 (by decide) (fun _ => ?_) (fun q9 => absurd (g4 q0) q9)
    refine lv_goto (tgt := 1278) hx hb dL_law_1046 (by decide) ?_
    exact kk u2 u1.2 _ _ _ hP hD hS g2 (lv_sub hl [2, 3, 4, 5, 6] rfl)

set_option maxHeartbeats 4000000 in
set_option maxRecDepth 100000 in
theorem c_wouldLeave {p : Program} {l : Launch} {e : Env} {s : State} {m : MethodId} {below : List Frame} {meth : Method} {c : Code} {H : Heap} {locs : List Loc} {cells slots : Nat} {Q : State → Prop} {ls : Array Slot} {A : Nat → Prop} {D : va_G} {cO cL cI cJ cZ : ClassId} {b L : Nat} {xs : Nat → Int32} {ax ar : Nat} {ad : Nat → Nat} {bo bx : Nat} {ba : Nat → Nat} {n i : Nat} {σ : St} {v : Int64} (C : LC p l s m meth c A D cO cL cI cJ cZ b L xs) (hn9 : n < 2 ^ 30) (hi : i + 5 ≤ L) (hcl : cells + 4 ≤ 637657) (hsl : slots + 24 ≤ 7183133) (hV : V n σ) (hP : va_P D vwCl (wA ax ar ad cO bo cL bx ba cI cJ cZ σ v) H) (hD : va_D A (wA ax ar ad cO bo cL bx ba cI cJ cZ σ v)) (hS : va_S A s.heap H locs) (hl : lv_has ls 8 [(4, .int (nI i)), (0, .ref b), (1, .ref ax), (2, .ref bx), (3, .ref bo)])
    (kk : ∀ (σ9 : St) (v9 : Int64) (H9 : Heap) (locs9 : List Loc) (ls9 : Array Slot), va_P D vwCl (wA ax ar ad cO bo cL bx ba cI cJ cZ σ9 v9) H9 → va_D A (wA ax ar ad cO bo cL bx ba cI cJ cZ σ9 v9) → va_S A s.heap H9 locs9 → V (n + 1) σ9 → lv_has ls9 8 [(4, .int (nI i)), (0, .ref b), (1, .ref ax), (2, .ref bx), (3, .ref bo)] → W p l e room_1 s m #[Value.ref b] below meth c H9 locs9 (cells + 4) (slots + 24) Q (F0 m 1278 ls9 [])) :
    W p l e room_1 s m #[Value.ref b] below meth c H locs cells slots Q (F0 m 1062 ls []) := by
  obtain ⟨hx, hb, hml, hown, hts, hE, hK, hA, hX, hbl, hbA, hfl, hL, hlocks⟩ := C
  have hKw : va_K D vwCl (tL cO cL) s := hK.sub [0, 1] rfl
  have hKc : va_K D vwCl (cT cO) s := hK.sub [0] rfl
  have hKm : va_K D vwCl (mT cI cJ cZ) s := hK.sub [2, 3, 4] rfl
  obtain ⟨N, hh, hg⟩ := g_wouldLeave (v := v) (t := (xs (i + 1))) hV hn9
  have eS := Cq_w (Cq_20 (Cq.rf σ) 0) ax ar ad cO
  have hP : va_P D vwCl (wL ax ar ad cO bo cL ((uI σ 20 0), v) ++ mW bx ba cI cJ cZ σ) H := by show va_P D vwCl ((cW ax ar ad cO (uI σ 20 0) ++ oW bo cL v) ++ mW bx ba cI cJ cZ σ) H; rw [← eS]; exact hP
  have hD : va_D A (wL ax ar ad cO bo cL ((uI σ 20 0), v) ++ mW bx ba cI cJ cZ σ) := by show va_D A ((cW ax ar ad cO (uI σ 20 0) ++ oW bo cL v) ++ mW bx ba cI cJ cZ σ); rw [← eS]; exact hD
  refine lv_aload_n hx hb dL_law_1062 rfl (lv_at hl 2 rfl) ?_
  refine s_arg (k := 1) hx hb hX hbl hbA hS hL (by omega) (lv_at hl 1 rfl) (lv_at hl 0 rfl) (by decide) dL_law_1063 dL_law_1064 dL_law_1066 dL_law_1067 dL_law_1068 ?_
  refine lv_aload_n hx hb dL_law_1069 rfl (lv_at hl 4 rfl) ?_
  refine f_calli (vx_runSW (As := [.ref ax, .int (xs (i + 1)), .ref bo]) (rest := []) ⟨hx, hb, hml, hown, hts⟩ (k_L_wouldLeave l D ax ar ad cO bo cL H.size (uI σ 20 0) v (xs (i + 1)) hfl) (vx_cwSW 3 hts gL_law_L_wouldLeave rfl rfl rfl (by decide +kernel) ⟨Nat.le_of_ble_eq_true rfl, Nat.le_of_ble_eq_true rfl⟩) (xPreS xE_ok hE hKw hA (P_l hP) (D_l hD) hS) rfl rfl hl.1 rfl (lv_room (Nat.le_of_ble_eq_true rfl)) dL_law_1070 ⟨(by show cells + 1 ≤ 637657; omega), (by show slots + 6 ≤ 7183133; omega)⟩) hP hD hS hA (fun r u1 H locs h1 hP hD hS => ?_)
  refine lv_istore (lv' := [(5, .int r), (4, .int (nI i)), (0, .ref b), (1, .ref ax), (2, .ref bx), (3, .ref bo)]) hx hb dL_law_1073 hl (by decide) rfl (fun ls hl => ?_)
  refine lv_aload_n hx hb dL_law_1075 rfl (lv_at hl 4 rfl) ?_
  refine s_arg (k := 1) hx hb hX hbl hbA hS hL (by omega) (lv_at hl 2 rfl) (lv_at hl 1 rfl) (by decide) dL_law_1076 dL_law_1077 dL_law_1079 dL_law_1080 dL_law_1081 ?_
  have hP := P_c hP
  have hD := D_c hD
  refine f_calli (va_runV (As := [.int (xs (i + 1))]) (rest := []) ⟨hx, hb, hml, hown, hts⟩ (k_X2_wouldLeave l D bx ba cI cJ cZ H.size σ (xs (i + 1)) N hh) (cwV 1 hts gL_law_X2_wouldLeave rfl rfl rfl (by decide +kernel) ⟨Nat.le_of_ble_eq_true rfl, Nat.le_of_ble_eq_true rfl⟩) (xPreV mE_ok trivial hKm hA (P_l hP) (D_l hD) hS (q0 := 0) (ci := 2) rfl rfl rfl) rfl rfl hl.1 rfl (lv_room (Nat.le_of_ble_eq_true rfl)) dL_law_1082 ⟨(by show cells + 1 + 0 ≤ 637657; omega), (by show slots + 6 + 0 ≤ 7183133; omega)⟩) hP hD hS hA (fun r2 u2 H locs h2 hP hD hS => ?_)
  obtain ⟨g1, g2, g3, g4⟩ := hg r u1 r2 u2 h1 h2
  refine lv_istore (lv' := [(6, .int r2), (5, .int r), (4, .int (nI i)), (0, .ref b), (1, .ref ax), (2, .ref bx), (3, .ref bo)]) hx hb dL_law_1085 hl (by decide) rfl (fun ls hl => ?_)
  refine lv_aload_n hx hb dL_law_1087 rfl (lv_at hl 5 rfl) ?_
  refine f_calli (va_runV (As := []) (rest := []) ⟨hx, hb, hml, hown, hts⟩ (k_X2_thrown l D bx ba cI cJ cZ H.size u2) (cwV 0 hts gL_law_X2_thrown rfl rfl rfl (by decide +kernel) ⟨Nat.le_of_ble_eq_true rfl, Nat.le_of_ble_eq_true rfl⟩) (xPreV mE_ok trivial hKm hA (P_l hP) (D_l hD) hS (q0 := 0) (ci := 2) rfl rfl rfl) rfl rfl hl.1 rfl (lv_room (Nat.le_of_ble_eq_true rfl)) dL_law_1088 ⟨(by show cells + 1 + 0 + 0 ≤ 637657; omega), (by show slots + 6 + 0 + 0 ≤ 7183133; omega)⟩) hP hD hS hA (fun r3 u3 H locs h3 hP hD hS => ?_)
  obtain ⟨e3, eu3⟩ := h3
  rw [eu3] at hP hD
  have hP := P_c hP
  have hD := D_c hD
  have eW := Cq_w g1 ax ar ad cO
  have hP : va_P D vwCl (wA ax ar ad cO bo cL bx ba cI cJ cZ u2 u1.2) H := by show va_P D vwCl ((cW ax ar ad cO u2 ++ oW bo cL u1.2) ++ mW bx ba cI cJ cZ u2) H; rw [← eW]; exact hP
  have hD : va_D A (wA ax ar ad cO bo cL bx ba cI cJ cZ u2 u1.2) := by show va_D A ((cW ax ar ad cO u2 ++ oW bo cL u1.2) ++ mW bx ba cI cJ cZ u2); rw [← eW]; exact hD
  refine W.widen (k := cells + 4) (n := slots + 24) (by omega) (by omega) ?_
  refine lv_iload hx hb dL_law_1091 (lv_at hl 1 rfl) ?_
  refine lv_icmp_eq (tgt := 1098) hx hb dL_law_1093 (by decide) (fun _ => ?_) (fun q => absurd (e3.trans g3.symm) q)
  refine lv_iload hx hb dL_law_1098 (lv_at hl 1 rfl) ?_
  refine lv_if_ne (tgt := 1115) hx hb dL_law_1100 (by decide) (fun _ => ?_) (fun q0 => ?_)
  · refine lv_goto (tgt := 1278) hx hb dL_law_1115 (by decide) ?_
    exact kk u2 u1.2 _ _ _ hP hD hS g2 (lv_sub hl [2, 3, 4, 5, 6] rfl)
  · refine lv_aload_n hx hb dL_law_1103 rfl (lv_at hl 6 rfl) ?_
    refine lv_iconst (v := 0) hx hb dL_law_1104 (by decide) ?_
    refine va_lald hx hb hK (P_r (P_l hP)) 0 1 rfl rfl (by unfold vp_in; decide) dL_law_1105 ?_
    refine lv_iload hx hb dL_law_1106 (lv_at hl 0 rfl) ?_
    refine lv_i2l hx hb dL_law_1108 rfl ?_
    refine x_eq (tgt := 1115) hx hb dL_law_1109 dL_law_1110 (by decide) (fun _ => ?_) (fun q9 => absurd (g4 q0) q9)
    refine lv_goto (tgt := 1278) hx hb dL_law_1115 (by decide) ?_
    exact kk u2 u1.2 _ _ _ hP hD hS g2 (lv_sub hl [2, 3, 4, 5, 6] rfl)
