set_option maxHeartbeats 4000000 in
set_option maxRecDepth 100000 in
theorem c_purge {p : Program} {l : Launch} {e : Env} {s : State} {m : MethodId} {below : List Frame} {meth : Method} {c : Code} {H : Heap} {locs : List Loc} {cells slots : Nat} {Q : State → Prop} {ls : Array Slot} {A : Nat → Prop} {D : va_G} {cO cL cI cJ cZ : ClassId} {b L : Nat} {xs : Nat → Int32} {ax ar : Nat} {ad : Nat → Nat} {bo bx : Nat} {ba : Nat → Nat} {n i : Nat} {σ : St} {v : Int64} (C : LC p l s m meth c A D cO cL cI cJ cZ b L xs) (hn9 : n < 2 ^ 30) (hi : i + 5 ≤ L) (hcl : cells + 4 ≤ 637657) (hsl : slots + 24 ≤ 7183133) (hV : V n σ) (hP : va_P D vwCl (wA ax ar ad cO bo cL bx ba cI cJ cZ σ v) H) (hD : va_D A (wA ax ar ad cO bo cL bx ba cI cJ cZ σ v)) (hS : va_S A s.heap H locs) (hl : lv_has ls 8 [(4, .int (nI i)), (0, .ref b), (1, .ref ax), (2, .ref bx), (3, .ref bo)])
    (kk : ∀ (σ9 : St) (v9 : Int64) (H9 : Heap) (locs9 : List Loc) (ls9 : Array Slot), va_P D vwCl (wA ax ar ad cO bo cL bx ba cI cJ cZ σ9 v9) H9 → va_D A (wA ax ar ad cO bo cL bx ba cI cJ cZ σ9 v9) → va_S A s.heap H9 locs9 → V (n + 1) σ9 → lv_has ls9 8 [(4, .int (nI i)), (0, .ref b), (1, .ref ax), (2, .ref bx), (3, .ref bo)] → W p l e room_1 s m #[Value.ref b] below meth c H9 locs9 (cells + 4) (slots + 24) Q (F0 m 1278 ls9 [])) :
    W p l e room_1 s m #[Value.ref b] below meth c H locs cells slots Q (F0 m 463 ls []) := by
  obtain ⟨hx, hb, hml, hown, hts, hE, hK, hA, hX, hbl, hbA, hfl, hL, hlocks⟩ := C
  have hKw : va_K D vwCl (tL cO cL) s := hK.sub [0, 1] rfl
  have hKc : va_K D vwCl (cT cO) s := hK.sub [0] rfl
  have hKm : va_K D vwCl (mT cI cJ cZ) s := hK.sub [2, 3, 4] rfl
  have eS := Cq_w (Cq_20 (Cq.rf σ) 0) ax ar ad cO
  have hP : va_P D vwCl (cW ax ar ad cO (uI σ 20 0) ++ (oW bo cL v ++ mW bx ba cI cJ cZ σ)) H := by rw [← eS]; exact P_a hP
  have hD : va_D A (cW ax ar ad cO (uI σ 20 0) ++ (oW bo cL v ++ mW bx ba cI cJ cZ σ)) := by rw [← eS]; exact D_a hD
  refine lv_aload_n hx hb dL_law_463 rfl (lv_at hl 2 rfl) ?_
  refine f_calli (va_runV (As := []) (rest := []) ⟨hx, hb, hml, hown, hts⟩ (k_X1_purge l D ax ar ad cO H.size (uI σ 20 0)) (cwV 0 hts gL_law_X1_purge rfl rfl rfl (by decide +kernel) ⟨Nat.le_of_ble_eq_true rfl, Nat.le_of_ble_eq_true rfl⟩) (xPreV xE_ok hE hKc hA (P_l hP) (D_l hD) hS (q0 := 0) (ci := 1) rfl rfl rfl) rfl rfl hl.1 rfl (lv_room (Nat.le_of_ble_eq_true rfl)) dL_law_464 ⟨(by show cells + 0 ≤ 637657; omega), (by show slots + 0 ≤ 7183133; omega)⟩) hP hD hS hA (fun r1 u1 H locs h1 hP hD hS => ?_)
  have hP := P_c (P_b hP)
  have hD := D_c (D_b hD)
  refine lv_aload_n hx hb dL_law_467 rfl (lv_at hl 3 rfl) ?_
  refine f_calli (va_runV (As := []) (rest := [.int r1]) ⟨hx, hb, hml, hown, hts⟩ (k_X2_purge l D bx ba cI cJ cZ H.size σ) (cwV 0 hts gL_law_X2_purge rfl rfl rfl (by decide +kernel) ⟨Nat.le_of_ble_eq_true rfl, Nat.le_of_ble_eq_true rfl⟩) (xPreV mE_ok trivial hKm hA (P_l hP) (D_l hD) hS (q0 := 0) (ci := 2) rfl rfl rfl) rfl rfl hl.1 rfl (lv_room (Nat.le_of_ble_eq_true rfl)) dL_law_468 ⟨(by show cells + 0 + 0 ≤ 637657; omega), (by show slots + 0 + 0 ≤ 7183133; omega)⟩) hP hD hS hA (fun r2 u2 H locs h2 hP hD hS => ?_)
  have hP := P_c hP
  have hD := D_c hD
  obtain ⟨e1, eu1⟩ := h1
  obtain ⟨e2, eu2⟩ := h2
  have hu : u1 = u2 := eu1.trans eu2.symm
  have hV2 : V (n + 1) u2 := by rw [eu2]; exact (rmO_V (V_uI hV (j := 20) (by decide) 0)).up (Nat.le_succ n)
  have er : r1 = r2 := by rw [e1, e2]
  rw [hu] at hP hD
  have hP : va_P D vwCl (wA ax ar ad cO bo cL bx ba cI cJ cZ u2 v) H := hP
  have hD : va_D A (wA ax ar ad cO bo cL bx ba cI cJ cZ u2 v) := hD
  refine W.widen (k := cells + 4) (n := slots + 24) (by omega) (by omega) ?_
  refine lv_icmp_eq (tgt := 1278) hx hb dL_law_471 (by decide) (fun _ => ?_) (fun q => absurd er q)
  exact kk u2 v _ _ _ hP hD hS hV2 hl

set_option maxHeartbeats 4000000 in
set_option maxRecDepth 100000 in
theorem c_endsFirst {p : Program} {l : Launch} {e : Env} {s : State} {m : MethodId} {below : List Frame} {meth : Method} {c : Code} {H : Heap} {locs : List Loc} {cells slots : Nat} {Q : State → Prop} {ls : Array Slot} {A : Nat → Prop} {D : va_G} {cO cL cI cJ cZ : ClassId} {b L : Nat} {xs : Nat → Int32} {ax ar : Nat} {ad : Nat → Nat} {bo bx : Nat} {ba : Nat → Nat} {n i : Nat} {σ : St} {v : Int64} (C : LC p l s m meth c A D cO cL cI cJ cZ b L xs) (hn9 : n < 2 ^ 30) (hi : i + 5 ≤ L) (hcl : cells + 4 ≤ 637657) (hsl : slots + 24 ≤ 7183133) (hV : V n σ) (hP : va_P D vwCl (wA ax ar ad cO bo cL bx ba cI cJ cZ σ v) H) (hD : va_D A (wA ax ar ad cO bo cL bx ba cI cJ cZ σ v)) (hS : va_S A s.heap H locs) (hl : lv_has ls 8 [(4, .int (nI i)), (0, .ref b), (1, .ref ax), (2, .ref bx), (3, .ref bo)])
    (kk : ∀ (σ9 : St) (v9 : Int64) (H9 : Heap) (locs9 : List Loc) (ls9 : Array Slot), va_P D vwCl (wA ax ar ad cO bo cL bx ba cI cJ cZ σ9 v9) H9 → va_D A (wA ax ar ad cO bo cL bx ba cI cJ cZ σ9 v9) → va_S A s.heap H9 locs9 → V (n + 1) σ9 → lv_has ls9 8 [(4, .int (nI i)), (0, .ref b), (1, .ref ax), (2, .ref bx), (3, .ref bo)] → W p l e room_1 s m #[Value.ref b] below meth c H9 locs9 (cells + 4) (slots + 24) Q (F0 m 1278 ls9 [])) :
    W p l e room_1 s m #[Value.ref b] below meth c H locs cells slots Q (F0 m 1049 ls []) := by
  obtain ⟨hx, hb, hml, hown, hts, hE, hK, hA, hX, hbl, hbA, hfl, hL, hlocks⟩ := C
  have hKw : va_K D vwCl (tL cO cL) s := hK.sub [0, 1] rfl
  have hKc : va_K D vwCl (cT cO) s := hK.sub [0] rfl
  have hKm : va_K D vwCl (mT cI cJ cZ) s := hK.sub [2, 3, 4] rfl
  have eS := Cq_w (Cq_20 (Cq.rf σ) 0) ax ar ad cO
  have hP : va_P D vwCl (cW ax ar ad cO (uI σ 20 0) ++ (oW bo cL v ++ mW bx ba cI cJ cZ σ)) H := by rw [← eS]; exact P_a hP
  have hD : va_D A (cW ax ar ad cO (uI σ 20 0) ++ (oW bo cL v ++ mW bx ba cI cJ cZ σ)) := by rw [← eS]; exact D_a hD
  refine lv_aload_n hx hb dL_law_1049 rfl (lv_at hl 2 rfl) ?_
  refine f_calli (va_runV (As := []) (rest := []) ⟨hx, hb, hml, hown, hts⟩ (k_X1_endsFirst l D ax ar ad cO H.size (uI σ 20 0)) (cwV 0 hts gL_law_X1_endsFirst rfl rfl rfl (by decide +kernel) ⟨Nat.le_of_ble_eq_true rfl, Nat.le_of_ble_eq_true rfl⟩) (xPreV xE_ok hE hKc hA (P_l hP) (D_l hD) hS (q0 := 0) (ci := 1) rfl rfl rfl) rfl rfl hl.1 rfl (lv_room (Nat.le_of_ble_eq_true rfl)) dL_law_1050 ⟨(by show cells + 0 ≤ 637657; omega), (by show slots + 0 ≤ 7183133; omega)⟩) hP hD hS hA (fun r1 u1 H locs h1 hP hD hS => ?_)
  have hP := P_c (P_b hP)
  have hD := D_c (D_b hD)
  refine lv_aload_n hx hb dL_law_1053 rfl (lv_at hl 3 rfl) ?_
  refine f_calli (va_runV (As := []) (rest := [.int r1]) ⟨hx, hb, hml, hown, hts⟩ (k_X2_endsFirst l D bx ba cI cJ cZ H.size σ) (cwV 0 hts gL_law_X2_endsFirst rfl rfl rfl (by decide +kernel) ⟨Nat.le_of_ble_eq_true rfl, Nat.le_of_ble_eq_true rfl⟩) (xPreV mE_ok trivial hKm hA (P_l hP) (D_l hD) hS (q0 := 0) (ci := 2) rfl rfl rfl) rfl rfl hl.1 rfl (lv_room (Nat.le_of_ble_eq_true rfl)) dL_law_1054 ⟨(by show cells + 0 + 0 ≤ 637657; omega), (by show slots + 0 + 0 ≤ 7183133; omega)⟩) hP hD hS hA (fun r2 u2 H locs h2 hP hD hS => ?_)
  have hP := P_c hP
  have hD := D_c hD
  obtain ⟨e1, eu1⟩ := h1
  obtain ⟨e2, eu2⟩ := h2
  have hu : u1 = u2 := eu1.trans eu2.symm
  have hV2 : V (n + 1) u2 := by rw [eu2]; exact V_20 hV 0
  have er : r1 = r2 := by rw [e1, e2]; exact ends_ok hV
  rw [hu] at hP hD
  have hP : va_P D vwCl (wA ax ar ad cO bo cL bx ba cI cJ cZ u2 v) H := hP
  have hD : va_D A (wA ax ar ad cO bo cL bx ba cI cJ cZ u2 v) := hD
  refine W.widen (k := cells + 4) (n := slots + 24) (by omega) (by omega) ?_
  refine lv_icmp_eq (tgt := 1278) hx hb dL_law_1057 (by decide) (fun _ => ?_) (fun q => absurd er q)
  exact kk u2 v _ _ _ hP hD hS hV2 hl

set_option maxHeartbeats 4000000 in
set_option maxRecDepth 100000 in
theorem c_time {p : Program} {l : Launch} {e : Env} {s : State} {m : MethodId} {below : List Frame} {meth : Method} {c : Code} {H : Heap} {locs : List Loc} {cells slots : Nat} {Q : State → Prop} {ls : Array Slot} {A : Nat → Prop} {D : va_G} {cO cL cI cJ cZ : ClassId} {b L : Nat} {xs : Nat → Int32} {ax ar : Nat} {ad : Nat → Nat} {bo bx : Nat} {ba : Nat → Nat} {n i : Nat} {σ : St} {v : Int64} (C : LC p l s m meth c A D cO cL cI cJ cZ b L xs) (hn9 : n < 2 ^ 30) (hi : i + 5 ≤ L) (hcl : cells + 4 ≤ 637657) (hsl : slots + 24 ≤ 7183133) (hV : V n σ) (hP : va_P D vwCl (wA ax ar ad cO bo cL bx ba cI cJ cZ σ v) H) (hD : va_D A (wA ax ar ad cO bo cL bx ba cI cJ cZ σ v)) (hS : va_S A s.heap H locs) (hl : lv_has ls 8 [(4, .int (nI i)), (0, .ref b), (1, .ref ax), (2, .ref bx), (3, .ref bo)])
    (kk : ∀ (σ9 : St) (v9 : Int64) (H9 : Heap) (locs9 : List Loc) (ls9 : Array Slot), va_P D vwCl (wA ax ar ad cO bo cL bx ba cI cJ cZ σ9 v9) H9 → va_D A (wA ax ar ad cO bo cL bx ba cI cJ cZ σ9 v9) → va_S A s.heap H9 locs9 → V (n + 1) σ9 → lv_has ls9 8 [(4, .int (nI i)), (0, .ref b), (1, .ref ax), (2, .ref bx), (3, .ref bo)] → W p l e room_1 s m #[Value.ref b] below meth c H9 locs9 (cells + 4) (slots + 24) Q (F0 m 1278 ls9 [])) :
    W p l e room_1 s m #[Value.ref b] below meth c H locs cells slots Q (F0 m 1118 ls []) := by
  obtain ⟨hx, hb, hml, hown, hts, hE, hK, hA, hX, hbl, hbA, hfl, hL, hlocks⟩ := C
  have hKw : va_K D vwCl (tL cO cL) s := hK.sub [0, 1] rfl
  have hKc : va_K D vwCl (cT cO) s := hK.sub [0] rfl
  have hKm : va_K D vwCl (mT cI cJ cZ) s := hK.sub [2, 3, 4] rfl
  have eS := Cq_w (Cq_20 (Cq.rf σ) 0) ax ar ad cO
  have hP : va_P D vwCl (cW ax ar ad cO (uI σ 20 0) ++ (oW bo cL v ++ mW bx ba cI cJ cZ σ)) H := by rw [← eS]; exact P_a hP
  have hD : va_D A (cW ax ar ad cO (uI σ 20 0) ++ (oW bo cL v ++ mW bx ba cI cJ cZ σ)) := by rw [← eS]; exact D_a hD
  refine lv_aload_n hx hb dL_law_1118 rfl (lv_at hl 2 rfl) ?_
  refine f_calli (va_runV (As := []) (rest := []) ⟨hx, hb, hml, hown, hts⟩ (k_X1_time l D ax ar ad cO H.size (uI σ 20 0)) (cwV 0 hts gL_law_X1_time rfl rfl rfl (by decide +kernel) ⟨Nat.le_of_ble_eq_true rfl, Nat.le_of_ble_eq_true rfl⟩) (xPreV xE_ok hE hKc hA (P_l hP) (D_l hD) hS (q0 := 0) (ci := 1) rfl rfl rfl) rfl rfl hl.1 rfl (lv_room (Nat.le_of_ble_eq_true rfl)) dL_law_1119 ⟨(by show cells + 0 ≤ 637657; omega), (by show slots + 0 ≤ 7183133; omega)⟩) hP hD hS hA (fun r1 u1 H locs h1 hP hD hS => ?_)
  have hP := P_c (P_b hP)
  have hD := D_c (D_b hD)
  refine lv_aload_n hx hb dL_law_1122 rfl (lv_at hl 3 rfl) ?_
  refine f_calli (va_runV (As := []) (rest := [.int r1]) ⟨hx, hb, hml, hown, hts⟩ (k_X2_time l D bx ba cI cJ cZ H.size σ) (cwV 0 hts gL_law_X2_time rfl rfl rfl (by decide +kernel) ⟨Nat.le_of_ble_eq_true rfl, Nat.le_of_ble_eq_true rfl⟩) (xPreV mE_ok trivial hKm hA (P_l hP) (D_l hD) hS (q0 := 0) (ci := 2) rfl rfl rfl) rfl rfl hl.1 rfl (lv_room (Nat.le_of_ble_eq_true rfl)) dL_law_1123 ⟨(by show cells + 0 + 0 ≤ 637657; omega), (by show slots + 0 + 0 ≤ 7183133; omega)⟩) hP hD hS hA (fun r2 u2 H locs h2 hP hD hS => ?_)
  have hP := P_c hP
  have hD := D_c hD
  obtain ⟨e1, eu1⟩ := h1
  obtain ⟨e2, eu2⟩ := h2
  have hu : u1 = u2 := eu1.trans eu2.symm
  have hV2 : V (n + 1) u2 := by rw [eu2]; exact V_20 hV 0
  have er : r1 = r2 := by rw [e1, e2]; rfl
  rw [hu] at hP hD
  have hP : va_P D vwCl (wA ax ar ad cO bo cL bx ba cI cJ cZ u2 v) H := hP
  have hD : va_D A (wA ax ar ad cO bo cL bx ba cI cJ cZ u2 v) := hD
  refine W.widen (k := cells + 4) (n := slots + 24) (by omega) (by omega) ?_
  refine lv_icmp_eq (tgt := 1278) hx hb dL_law_1126 (by decide) (fun _ => ?_) (fun q => absurd er q)
  exact kk u2 v _ _ _ hP hD hS hV2 hl

set_option maxHeartbeats 4000000 in
set_option maxRecDepth 100000 in
theorem c_clock {p : Program} {l : Launch} {e : Env} {s : State} {m : MethodId} {below : List Frame} {meth : Method} {c : Code} {H : Heap} {locs : List Loc} {cells slots : Nat} {Q : State → Prop} {ls : Array Slot} {A : Nat → Prop} {D : va_G} {cO cL cI cJ cZ : ClassId} {b L : Nat} {xs : Nat → Int32} {ax ar : Nat} {ad : Nat → Nat} {bo bx : Nat} {ba : Nat → Nat} {n i : Nat} {σ : St} {v : Int64} (C : LC p l s m meth c A D cO cL cI cJ cZ b L xs) (hn9 : n < 2 ^ 30) (hi : i + 5 ≤ L) (hcl : cells + 4 ≤ 637657) (hsl : slots + 24 ≤ 7183133) (hV : V n σ) (hP : va_P D vwCl (wA ax ar ad cO bo cL bx ba cI cJ cZ σ v) H) (hD : va_D A (wA ax ar ad cO bo cL bx ba cI cJ cZ σ v)) (hS : va_S A s.heap H locs) (hl : lv_has ls 8 [(4, .int (nI i)), (0, .ref b), (1, .ref ax), (2, .ref bx), (3, .ref bo)])
    (kk : ∀ (σ9 : St) (v9 : Int64) (H9 : Heap) (locs9 : List Loc) (ls9 : Array Slot), va_P D vwCl (wA ax ar ad cO bo cL bx ba cI cJ cZ σ9 v9) H9 → va_D A (wA ax ar ad cO bo cL bx ba cI cJ cZ σ9 v9) → va_S A s.heap H9 locs9 → V (n + 1) σ9 → lv_has ls9 8 [(4, .int (nI i)), (0, .ref b), (1, .ref ax), (2, .ref bx), (3, .ref bo)] → W p l e room_1 s m #[Value.ref b] below meth c H9 locs9 (cells + 4) (slots + 24) Q (F0 m 1278 ls9 [])) :
    W p l e room_1 s m #[Value.ref b] below meth c H locs cells slots Q (F0 m 1131 ls []) := by
  obtain ⟨hx, hb, hml, hown, hts, hE, hK, hA, hX, hbl, hbA, hfl, hL, hlocks⟩ := C
  have hKw : va_K D vwCl (tL cO cL) s := hK.sub [0, 1] rfl
  have hKc : va_K D vwCl (cT cO) s := hK.sub [0] rfl
  have hKm : va_K D vwCl (mT cI cJ cZ) s := hK.sub [2, 3, 4] rfl
  have eS := Cq_w (Cq_20 (Cq.rf σ) 0) ax ar ad cO
  have hP : va_P D vwCl (cW ax ar ad cO (uI σ 20 0) ++ (oW bo cL v ++ mW bx ba cI cJ cZ σ)) H := by rw [← eS]; exact P_a hP
  have hD : va_D A (cW ax ar ad cO (uI σ 20 0) ++ (oW bo cL v ++ mW bx ba cI cJ cZ σ)) := by rw [← eS]; exact D_a hD
  refine lv_aload_n hx hb dL_law_1131 rfl (lv_at hl 2 rfl) ?_
  refine f_calll (va_runV (As := []) (rest := []) ⟨hx, hb, hml, hown, hts⟩ (k_X1_clock l D ax ar ad cO H.size (uI σ 20 0)) (cwV 0 hts gL_law_X1_clock rfl rfl rfl (by decide +kernel) ⟨Nat.le_of_ble_eq_true rfl, Nat.le_of_ble_eq_true rfl⟩) (xPreV xE_ok hE hKc hA (P_l hP) (D_l hD) hS (q0 := 0) (ci := 1) rfl rfl rfl) rfl rfl hl.1 rfl (lv_room (Nat.le_of_ble_eq_true rfl)) dL_law_1132 ⟨(by show cells + 0 ≤ 637657; omega), (by show slots + 0 ≤ 7183133; omega)⟩) hP hD hS hA (fun r1 u1 H locs h1 hP hD hS => ?_)
  have hP := P_c (P_b hP)
  have hD := D_c (D_b hD)
  refine lv_aload_n hx hb dL_law_1135 rfl (lv_at hl 3 rfl) ?_
  refine f_calll (va_runV (As := []) (rest := [.long r1]) ⟨hx, hb, hml, hown, hts⟩ (k_X2_clock l D bx ba cI cJ cZ H.size σ) (cwV 0 hts gL_law_X2_clock rfl rfl rfl (by decide +kernel) ⟨Nat.le_of_ble_eq_true rfl, Nat.le_of_ble_eq_true rfl⟩) (xPreV mE_ok trivial hKm hA (P_l hP) (D_l hD) hS (q0 := 0) (ci := 2) rfl rfl rfl) rfl rfl hl.1 rfl (lv_room (Nat.le_of_ble_eq_true rfl)) dL_law_1136 ⟨(by show cells + 0 + 0 ≤ 637657; omega), (by show slots + 0 + 0 ≤ 7183133; omega)⟩) hP hD hS hA (fun r2 u2 H locs h2 hP hD hS => ?_)
  have hP := P_c hP
  have hD := D_c hD
  obtain ⟨e1, eu1⟩ := h1
  obtain ⟨e2, eu2⟩ := h2
  have hu : u1 = u2 := eu1.trans eu2.symm
  have hV2 : V (n + 1) u2 := by rw [eu2]; exact V_20 hV 0
  have er : r1 = r2 := by rw [e1, e2]; rfl
  rw [hu] at hP hD
  have hP : va_P D vwCl (wA ax ar ad cO bo cL bx ba cI cJ cZ u2 v) H := hP
  have hD : va_D A (wA ax ar ad cO bo cL bx ba cI cJ cZ u2 v) := hD
  refine W.widen (k := cells + 4) (n := slots + 24) (by omega) (by omega) ?_
  refine x_eq (tgt := 1278) hx hb dL_law_1139 dL_law_1140 (by decide) (fun _ => ?_) (fun q => absurd er q)
  exact kk u2 v _ _ _ hP hD hS hV2 hl

set_option maxHeartbeats 4000000 in
set_option maxRecDepth 100000 in
theorem c_capacity {p : Program} {l : Launch} {e : Env} {s : State} {m : MethodId} {below : List Frame} {meth : Method} {c : Code} {H : Heap} {locs : List Loc} {cells slots : Nat} {Q : State → Prop} {ls : Array Slot} {A : Nat → Prop} {D : va_G} {cO cL cI cJ cZ : ClassId} {b L : Nat} {xs : Nat → Int32} {ax ar : Nat} {ad : Nat → Nat} {bo bx : Nat} {ba : Nat → Nat} {n i : Nat} {σ : St} {v : Int64} (C : LC p l s m meth c A D cO cL cI cJ cZ b L xs) (hn9 : n < 2 ^ 30) (hi : i + 5 ≤ L) (hcl : cells + 4 ≤ 637657) (hsl : slots + 24 ≤ 7183133) (hV : V n σ) (hP : va_P D vwCl (wA ax ar ad cO bo cL bx ba cI cJ cZ σ v) H) (hD : va_D A (wA ax ar ad cO bo cL bx ba cI cJ cZ σ v)) (hS : va_S A s.heap H locs) (hl : lv_has ls 8 [(4, .int (nI i)), (0, .ref b), (1, .ref ax), (2, .ref bx), (3, .ref bo)])
    (kk : ∀ (σ9 : St) (v9 : Int64) (H9 : Heap) (locs9 : List Loc) (ls9 : Array Slot), va_P D vwCl (wA ax ar ad cO bo cL bx ba cI cJ cZ σ9 v9) H9 → va_D A (wA ax ar ad cO bo cL bx ba cI cJ cZ σ9 v9) → va_S A s.heap H9 locs9 → V (n + 1) σ9 → lv_has ls9 8 [(4, .int (nI i)), (0, .ref b), (1, .ref ax), (2, .ref bx), (3, .ref bo)] → W p l e room_1 s m #[Value.ref b] below meth c H9 locs9 (cells + 4) (slots + 24) Q (F0 m 1278 ls9 [])) :
    W p l e room_1 s m #[Value.ref b] below meth c H locs cells slots Q (F0 m 1145 ls []) := by
  obtain ⟨hx, hb, hml, hown, hts, hE, hK, hA, hX, hbl, hbA, hfl, hL, hlocks⟩ := C
  have hKw : va_K D vwCl (tL cO cL) s := hK.sub [0, 1] rfl
  have hKc : va_K D vwCl (cT cO) s := hK.sub [0] rfl
  have hKm : va_K D vwCl (mT cI cJ cZ) s := hK.sub [2, 3, 4] rfl
  have eS := Cq_w (Cq_20 (Cq.rf σ) 0) ax ar ad cO
  have hP : va_P D vwCl (cW ax ar ad cO (uI σ 20 0) ++ (oW bo cL v ++ mW bx ba cI cJ cZ σ)) H := by rw [← eS]; exact P_a hP
  have hD : va_D A (cW ax ar ad cO (uI σ 20 0) ++ (oW bo cL v ++ mW bx ba cI cJ cZ σ)) := by rw [← eS]; exact D_a hD
  refine lv_aload_n hx hb dL_law_1145 rfl (lv_at hl 2 rfl) ?_
  refine f_calli (va_runV (As := []) (rest := []) ⟨hx, hb, hml, hown, hts⟩ (k_X1_capacity l D ax ar ad cO H.size (uI σ 20 0)) (cwV 0 hts gL_law_X1_capacity rfl rfl rfl (by decide +kernel) ⟨Nat.le_of_ble_eq_true rfl, Nat.le_of_ble_eq_true rfl⟩) (xPreV xE_ok hE hKc hA (P_l hP) (D_l hD) hS (q0 := 0) (ci := 1) rfl rfl rfl) rfl rfl hl.1 rfl (lv_room (Nat.le_of_ble_eq_true rfl)) dL_law_1146 ⟨(by show cells + 0 ≤ 637657; omega), (by show slots + 0 ≤ 7183133; omega)⟩) hP hD hS hA (fun r1 u1 H locs h1 hP hD hS => ?_)
  have hP := P_c (P_b hP)
  have hD := D_c (D_b hD)
  refine lv_aload_n hx hb dL_law_1149 rfl (lv_at hl 3 rfl) ?_
  refine f_calli (va_runV (As := []) (rest := [.int r1]) ⟨hx, hb, hml, hown, hts⟩ (k_X2_capacity l D bx ba cI cJ cZ H.size σ) (cwV 0 hts gL_law_X2_capacity rfl rfl rfl (by decide +kernel) ⟨Nat.le_of_ble_eq_true rfl, Nat.le_of_ble_eq_true rfl⟩) (xPreV mE_ok trivial hKm hA (P_l hP) (D_l hD) hS (q0 := 0) (ci := 2) rfl rfl rfl) rfl rfl hl.1 rfl (lv_room (Nat.le_of_ble_eq_true rfl)) dL_law_1150 ⟨(by show cells + 0 + 0 ≤ 637657; omega), (by show slots + 0 + 0 ≤ 7183133; omega)⟩) hP hD hS hA (fun r2 u2 H locs h2 hP hD hS => ?_)
  have hP := P_c hP
  have hD := D_c hD
  obtain ⟨e1, eu1⟩ := h1
  obtain ⟨e2, eu2⟩ := h2
  have hu : u1 = u2 := eu1.trans eu2.symm
  have hV2 : V (n + 1) u2 := by rw [eu2]; exact V_20 hV 0
  have er : r1 = r2 := by rw [e1, e2]; rfl
  rw [hu] at hP hD
  have hP : va_P D vwCl (wA ax ar ad cO bo cL bx ba cI cJ cZ u2 v) H := hP
  have hD : va_D A (wA ax ar ad cO bo cL bx ba cI cJ cZ u2 v) := hD
  refine W.widen (k := cells + 4) (n := slots + 24) (by omega) (by omega) ?_
  refine lv_icmp_eq (tgt := 1278) hx hb dL_law_1153 (by decide) (fun _ => ?_) (fun q => absurd er q)
  exact kk u2 v _ _ _ hP hD hS hV2 hl

set_option maxHeartbeats 4000000 in
set_option maxRecDepth 100000 in
theorem c_entries {p : Program} {l : Launch} {e : Env} {s : State} {m : MethodId} {below : List Frame} {meth : Method} {c : Code} {H : Heap} {locs : List Loc} {cells slots : Nat} {Q : State → Prop} {ls : Array Slot} {A : Nat → Prop} {D : va_G} {cO cL cI cJ cZ : ClassId} {b L : Nat} {xs : Nat → Int32} {ax ar : Nat} {ad : Nat → Nat} {bo bx : Nat} {ba : Nat → Nat} {n i : Nat} {σ : St} {v : Int64} (C : LC p l s m meth c A D cO cL cI cJ cZ b L xs) (hn9 : n < 2 ^ 30) (hi : i + 5 ≤ L) (hcl : cells + 4 ≤ 637657) (hsl : slots + 24 ≤ 7183133) (hV : V n σ) (hP : va_P D vwCl (wA ax ar ad cO bo cL bx ba cI cJ cZ σ v) H) (hD : va_D A (wA ax ar ad cO bo cL bx ba cI cJ cZ σ v)) (hS : va_S A s.heap H locs) (hl : lv_has ls 8 [(4, .int (nI i)), (0, .ref b), (1, .ref ax), (2, .ref bx), (3, .ref bo)])
    (kk : ∀ (σ9 : St) (v9 : Int64) (H9 : Heap) (locs9 : List Loc) (ls9 : Array Slot), va_P D vwCl (wA ax ar ad cO bo cL bx ba cI cJ cZ σ9 v9) H9 → va_D A (wA ax ar ad cO bo cL bx ba cI cJ cZ σ9 v9) → va_S A s.heap H9 locs9 → V (n + 1) σ9 → lv_has ls9 8 [(4, .int (nI i)), (0, .ref b), (1, .ref ax), (2, .ref bx), (3, .ref bo)] → W p l e room_1 s m #[Value.ref b] below meth c H9 locs9 (cells + 4) (slots + 24) Q (F0 m 1278 ls9 [])) :
    W p l e room_1 s m #[Value.ref b] below meth c H locs cells slots Q (F0 m 1158 ls []) := by
  obtain ⟨hx, hb, hml, hown, hts, hE, hK, hA, hX, hbl, hbA, hfl, hL, hlocks⟩ := C
  have hKw : va_K D vwCl (tL cO cL) s := hK.sub [0, 1] rfl
  have hKc : va_K D vwCl (cT cO) s := hK.sub [0] rfl
  have hKm : va_K D vwCl (mT cI cJ cZ) s := hK.sub [2, 3, 4] rfl
  have eS := Cq_w (Cq_20 (Cq.rf σ) 0) ax ar ad cO
  have hP : va_P D vwCl (cW ax ar ad cO (uI σ 20 0) ++ (oW bo cL v ++ mW bx ba cI cJ cZ σ)) H := by rw [← eS]; exact P_a hP
  have hD : va_D A (cW ax ar ad cO (uI σ 20 0) ++ (oW bo cL v ++ mW bx ba cI cJ cZ σ)) := by rw [← eS]; exact D_a hD
  refine lv_aload_n hx hb dL_law_1158 rfl (lv_at hl 2 rfl) ?_
  refine f_calli (va_runV (As := []) (rest := []) ⟨hx, hb, hml, hown, hts⟩ (k_X1_entries l D ax ar ad cO H.size (uI σ 20 0)) (cwV 0 hts gL_law_X1_entries rfl rfl rfl (by decide +kernel) ⟨Nat.le_of_ble_eq_true rfl, Nat.le_of_ble_eq_true rfl⟩) (xPreV xE_ok hE hKc hA (P_l hP) (D_l hD) hS (q0 := 0) (ci := 1) rfl rfl rfl) rfl rfl hl.1 rfl (lv_room (Nat.le_of_ble_eq_true rfl)) dL_law_1159 ⟨(by show cells + 0 ≤ 637657; omega), (by show slots + 0 ≤ 7183133; omega)⟩) hP hD hS hA (fun r1 u1 H locs h1 hP hD hS => ?_)
  have hP := P_c (P_b hP)
  have hD := D_c (D_b hD)
  refine lv_aload_n hx hb dL_law_1162 rfl (lv_at hl 3 rfl) ?_
  refine f_calli (va_runV (As := []) (rest := [.int r1]) ⟨hx, hb, hml, hown, hts⟩ (k_X2_entries l D bx ba cI cJ cZ H.size σ) (cwV 0 hts gL_law_X2_entries rfl rfl rfl (by decide +kernel) ⟨Nat.le_of_ble_eq_true rfl, Nat.le_of_ble_eq_true rfl⟩) (xPreV mE_ok trivial hKm hA (P_l hP) (D_l hD) hS (q0 := 0) (ci := 2) rfl rfl rfl) rfl rfl hl.1 rfl (lv_room (Nat.le_of_ble_eq_true rfl)) dL_law_1163 ⟨(by show cells + 0 + 0 ≤ 637657; omega), (by show slots + 0 + 0 ≤ 7183133; omega)⟩) hP hD hS hA (fun r2 u2 H locs h2 hP hD hS => ?_)
  have hP := P_c hP
  have hD := D_c hD
  obtain ⟨e1, eu1⟩ := h1
  obtain ⟨e2, eu2⟩ := h2
  have hu : u1 = u2 := eu1.trans eu2.symm
  have hV2 : V (n + 1) u2 := by rw [eu2]; exact V_20 hV 0
  have er : r1 = r2 := by rw [e1, e2, ents_uI]
  rw [hu] at hP hD
  have hP : va_P D vwCl (wA ax ar ad cO bo cL bx ba cI cJ cZ u2 v) H := hP
  have hD : va_D A (wA ax ar ad cO bo cL bx ba cI cJ cZ u2 v) := hD
  refine W.widen (k := cells + 4) (n := slots + 24) (by omega) (by omega) ?_
  refine lv_icmp_eq (tgt := 1278) hx hb dL_law_1166 (by decide) (fun _ => ?_) (fun q => absurd er q)
  exact kk u2 v _ _ _ hP hD hS hV2 hl

set_option maxHeartbeats 4000000 in
set_option maxRecDepth 100000 in
theorem c_used {p : Program} {l : Launch} {e : Env} {s : State} {m : MethodId} {below : List Frame} {meth : Method} {c : Code} {H : Heap} {locs : List Loc} {cells slots : Nat} {Q : State → Prop} {ls : Array Slot} {A : Nat → Prop} {D : va_G} {cO cL cI cJ cZ : ClassId} {b L : Nat} {xs : Nat → Int32} {ax ar : Nat} {ad : Nat → Nat} {bo bx : Nat} {ba : Nat → Nat} {n i : Nat} {σ : St} {v : Int64} (C : LC p l s m meth c A D cO cL cI cJ cZ b L xs) (hn9 : n < 2 ^ 30) (hi : i + 5 ≤ L) (hcl : cells + 4 ≤ 637657) (hsl : slots + 24 ≤ 7183133) (hV : V n σ) (hP : va_P D vwCl (wA ax ar ad cO bo cL bx ba cI cJ cZ σ v) H) (hD : va_D A (wA ax ar ad cO bo cL bx ba cI cJ cZ σ v)) (hS : va_S A s.heap H locs) (hl : lv_has ls 8 [(4, .int (nI i)), (0, .ref b), (1, .ref ax), (2, .ref bx), (3, .ref bo)])
    (kk : ∀ (σ9 : St) (v9 : Int64) (H9 : Heap) (locs9 : List Loc) (ls9 : Array Slot), va_P D vwCl (wA ax ar ad cO bo cL bx ba cI cJ cZ σ9 v9) H9 → va_D A (wA ax ar ad cO bo cL bx ba cI cJ cZ σ9 v9) → va_S A s.heap H9 locs9 → V (n + 1) σ9 → lv_has ls9 8 [(4, .int (nI i)), (0, .ref b), (1, .ref ax), (2, .ref bx), (3, .ref bo)] → W p l e room_1 s m #[Value.ref b] below meth c H9 locs9 (cells + 4) (slots + 24) Q (F0 m 1278 ls9 [])) :
    W p l e room_1 s m #[Value.ref b] below meth c H locs cells slots Q (F0 m 1171 ls []) := by
  obtain ⟨hx, hb, hml, hown, hts, hE, hK, hA, hX, hbl, hbA, hfl, hL, hlocks⟩ := C
  have hKw : va_K D vwCl (tL cO cL) s := hK.sub [0, 1] rfl
  have hKc : va_K D vwCl (cT cO) s := hK.sub [0] rfl
  have hKm : va_K D vwCl (mT cI cJ cZ) s := hK.sub [2, 3, 4] rfl
  have eS := Cq_w (Cq_20 (Cq.rf σ) 0) ax ar ad cO
  have hP : va_P D vwCl (cW ax ar ad cO (uI σ 20 0) ++ (oW bo cL v ++ mW bx ba cI cJ cZ σ)) H := by rw [← eS]; exact P_a hP
  have hD : va_D A (cW ax ar ad cO (uI σ 20 0) ++ (oW bo cL v ++ mW bx ba cI cJ cZ σ)) := by rw [← eS]; exact D_a hD
  refine lv_aload_n hx hb dL_law_1171 rfl (lv_at hl 2 rfl) ?_
  refine f_calli (va_runV (As := []) (rest := []) ⟨hx, hb, hml, hown, hts⟩ (k_X1_used l D ax ar ad cO H.size (uI σ 20 0)) (cwV 0 hts gL_law_X1_used rfl rfl rfl (by decide +kernel) ⟨Nat.le_of_ble_eq_true rfl, Nat.le_of_ble_eq_true rfl⟩) (xPreV xE_ok hE hKc hA (P_l hP) (D_l hD) hS (q0 := 0) (ci := 1) rfl rfl rfl) rfl rfl hl.1 rfl (lv_room (Nat.le_of_ble_eq_true rfl)) dL_law_1172 ⟨(by show cells + 0 ≤ 637657; omega), (by show slots + 0 ≤ 7183133; omega)⟩) hP hD hS hA (fun r1 u1 H locs h1 hP hD hS => ?_)
  have hP := P_c (P_b hP)
  have hD := D_c (D_b hD)
  refine lv_aload_n hx hb dL_law_1175 rfl (lv_at hl 3 rfl) ?_
  refine f_calli (va_runV (As := []) (rest := [.int r1]) ⟨hx, hb, hml, hown, hts⟩ (k_X2_used l D bx ba cI cJ cZ H.size σ) (cwV 0 hts gL_law_X2_used rfl rfl rfl (by decide +kernel) ⟨Nat.le_of_ble_eq_true rfl, Nat.le_of_ble_eq_true rfl⟩) (xPreV mE_ok trivial hKm hA (P_l hP) (D_l hD) hS (q0 := 0) (ci := 2) rfl rfl rfl) rfl rfl hl.1 rfl (lv_room (Nat.le_of_ble_eq_true rfl)) dL_law_1176 ⟨(by show cells + 0 + 0 ≤ 637657; omega), (by show slots + 0 + 0 ≤ 7183133; omega)⟩) hP hD hS hA (fun r2 u2 H locs h2 hP hD hS => ?_)
  have hP := P_c hP
  have hD := D_c hD
  obtain ⟨e1, eu1⟩ := h1
  obtain ⟨e2, eu2⟩ := h2
  have hu : u1 = u2 := eu1.trans eu2.symm
  have hV2 : V (n + 1) u2 := by rw [eu2]; exact V_20 hV 0
  have er : r1 = r2 := by rw [e1, e2]
  rw [hu] at hP hD
  have hP : va_P D vwCl (wA ax ar ad cO bo cL bx ba cI cJ cZ u2 v) H := hP
  have hD : va_D A (wA ax ar ad cO bo cL bx ba cI cJ cZ u2 v) := hD
  refine W.widen (k := cells + 4) (n := slots + 24) (by omega) (by omega) ?_
  refine lv_icmp_eq (tgt := 1278) hx hb dL_law_1179 (by decide) (fun _ => ?_) (fun q => absurd er q)
  exact kk u2 v _ _ _ hP hD hS hV2 hl

set_option maxHeartbeats 4000000 in
set_option maxRecDepth 100000 in
theorem c_hits {p : Program} {l : Launch} {e : Env} {s : State} {m : MethodId} {below : List Frame} {meth : Method} {c : Code} {H : Heap} {locs : List Loc} {cells slots : Nat} {Q : State → Prop} {ls : Array Slot} {A : Nat → Prop} {D : va_G} {cO cL cI cJ cZ : ClassId} {b L : Nat} {xs : Nat → Int32} {ax ar : Nat} {ad : Nat → Nat} {bo bx : Nat} {ba : Nat → Nat} {n i : Nat} {σ : St} {v : Int64} (C : LC p l s m meth c A D cO cL cI cJ cZ b L xs) (hn9 : n < 2 ^ 30) (hi : i + 5 ≤ L) (hcl : cells + 4 ≤ 637657) (hsl : slots + 24 ≤ 7183133) (hV : V n σ) (hP : va_P D vwCl (wA ax ar ad cO bo cL bx ba cI cJ cZ σ v) H) (hD : va_D A (wA ax ar ad cO bo cL bx ba cI cJ cZ σ v)) (hS : va_S A s.heap H locs) (hl : lv_has ls 8 [(4, .int (nI i)), (0, .ref b), (1, .ref ax), (2, .ref bx), (3, .ref bo)])
    (kk : ∀ (σ9 : St) (v9 : Int64) (H9 : Heap) (locs9 : List Loc) (ls9 : Array Slot), va_P D vwCl (wA ax ar ad cO bo cL bx ba cI cJ cZ σ9 v9) H9 → va_D A (wA ax ar ad cO bo cL bx ba cI cJ cZ σ9 v9) → va_S A s.heap H9 locs9 → V (n + 1) σ9 → lv_has ls9 8 [(4, .int (nI i)), (0, .ref b), (1, .ref ax), (2, .ref bx), (3, .ref bo)] → W p l e room_1 s m #[Value.ref b] below meth c H9 locs9 (cells + 4) (slots + 24) Q (F0 m 1278 ls9 [])) :
    W p l e room_1 s m #[Value.ref b] below meth c H locs cells slots Q (F0 m 1184 ls []) := by
  obtain ⟨hx, hb, hml, hown, hts, hE, hK, hA, hX, hbl, hbA, hfl, hL, hlocks⟩ := C
  have hKw : va_K D vwCl (tL cO cL) s := hK.sub [0, 1] rfl
  have hKc : va_K D vwCl (cT cO) s := hK.sub [0] rfl
  have hKm : va_K D vwCl (mT cI cJ cZ) s := hK.sub [2, 3, 4] rfl
  have eS := Cq_w (Cq_20 (Cq.rf σ) 0) ax ar ad cO
  have hP : va_P D vwCl (cW ax ar ad cO (uI σ 20 0) ++ (oW bo cL v ++ mW bx ba cI cJ cZ σ)) H := by rw [← eS]; exact P_a hP
  have hD : va_D A (cW ax ar ad cO (uI σ 20 0) ++ (oW bo cL v ++ mW bx ba cI cJ cZ σ)) := by rw [← eS]; exact D_a hD
  refine lv_aload_n hx hb dL_law_1184 rfl (lv_at hl 2 rfl) ?_
  refine f_calli (va_runV (As := []) (rest := []) ⟨hx, hb, hml, hown, hts⟩ (k_X1_hits l D ax ar ad cO H.size (uI σ 20 0)) (cwV 0 hts gL_law_X1_hits rfl rfl rfl (by decide +kernel) ⟨Nat.le_of_ble_eq_true rfl, Nat.le_of_ble_eq_true rfl⟩) (xPreV xE_ok hE hKc hA (P_l hP) (D_l hD) hS (q0 := 0) (ci := 1) rfl rfl rfl) rfl rfl hl.1 rfl (lv_room (Nat.le_of_ble_eq_true rfl)) dL_law_1185 ⟨(by show cells + 0 ≤ 637657; omega), (by show slots + 0 ≤ 7183133; omega)⟩) hP hD hS hA (fun r1 u1 H locs h1 hP hD hS => ?_)
  have hP := P_c (P_b hP)
  have hD := D_c (D_b hD)
  refine lv_aload_n hx hb dL_law_1188 rfl (lv_at hl 3 rfl) ?_
  refine f_calli (va_runV (As := []) (rest := [.int r1]) ⟨hx, hb, hml, hown, hts⟩ (k_X2_hits l D bx ba cI cJ cZ H.size σ) (cwV 0 hts gL_law_X2_hits rfl rfl rfl (by decide +kernel) ⟨Nat.le_of_ble_eq_true rfl, Nat.le_of_ble_eq_true rfl⟩) (xPreV mE_ok trivial hKm hA (P_l hP) (D_l hD) hS (q0 := 0) (ci := 2) rfl rfl rfl) rfl rfl hl.1 rfl (lv_room (Nat.le_of_ble_eq_true rfl)) dL_law_1189 ⟨(by show cells + 0 + 0 ≤ 637657; omega), (by show slots + 0 + 0 ≤ 7183133; omega)⟩) hP hD hS hA (fun r2 u2 H locs h2 hP hD hS => ?_)
  have hP := P_c hP
  have hD := D_c hD
  obtain ⟨e1, eu1⟩ := h1
  obtain ⟨e2, eu2⟩ := h2
  have hu : u1 = u2 := eu1.trans eu2.symm
  have hV2 : V (n + 1) u2 := by rw [eu2]; exact V_20 hV 0
  have er : r1 = r2 := by rw [e1, e2]; rfl
  rw [hu] at hP hD
  have hP : va_P D vwCl (wA ax ar ad cO bo cL bx ba cI cJ cZ u2 v) H := hP
  have hD : va_D A (wA ax ar ad cO bo cL bx ba cI cJ cZ u2 v) := hD
  refine W.widen (k := cells + 4) (n := slots + 24) (by omega) (by omega) ?_
  refine lv_icmp_eq (tgt := 1278) hx hb dL_law_1192 (by decide) (fun _ => ?_) (fun q => absurd er q)
  exact kk u2 v _ _ _ hP hD hS hV2 hl

set_option maxHeartbeats 4000000 in
set_option maxRecDepth 100000 in
theorem c_misses {p : Program} {l : Launch} {e : Env} {s : State} {m : MethodId} {below : List Frame} {meth : Method} {c : Code} {H : Heap} {locs : List Loc} {cells slots : Nat} {Q : State → Prop} {ls : Array Slot} {A : Nat → Prop} {D : va_G} {cO cL cI cJ cZ : ClassId} {b L : Nat} {xs : Nat → Int32} {ax ar : Nat} {ad : Nat → Nat} {bo bx : Nat} {ba : Nat → Nat} {n i : Nat} {σ : St} {v : Int64} (C : LC p l s m meth c A D cO cL cI cJ cZ b L xs) (hn9 : n < 2 ^ 30) (hi : i + 5 ≤ L) (hcl : cells + 4 ≤ 637657) (hsl : slots + 24 ≤ 7183133) (hV : V n σ) (hP : va_P D vwCl (wA ax ar ad cO bo cL bx ba cI cJ cZ σ v) H) (hD : va_D A (wA ax ar ad cO bo cL bx ba cI cJ cZ σ v)) (hS : va_S A s.heap H locs) (hl : lv_has ls 8 [(4, .int (nI i)), (0, .ref b), (1, .ref ax), (2, .ref bx), (3, .ref bo)])
    (kk : ∀ (σ9 : St) (v9 : Int64) (H9 : Heap) (locs9 : List Loc) (ls9 : Array Slot), va_P D vwCl (wA ax ar ad cO bo cL bx ba cI cJ cZ σ9 v9) H9 → va_D A (wA ax ar ad cO bo cL bx ba cI cJ cZ σ9 v9) → va_S A s.heap H9 locs9 → V (n + 1) σ9 → lv_has ls9 8 [(4, .int (nI i)), (0, .ref b), (1, .ref ax), (2, .ref bx), (3, .ref bo)] → W p l e room_1 s m #[Value.ref b] below meth c H9 locs9 (cells + 4) (slots + 24) Q (F0 m 1278 ls9 [])) :
    W p l e room_1 s m #[Value.ref b] below meth c H locs cells slots Q (F0 m 1197 ls []) := by
  obtain ⟨hx, hb, hml, hown, hts, hE, hK, hA, hX, hbl, hbA, hfl, hL, hlocks⟩ := C
  have hKw : va_K D vwCl (tL cO cL) s := hK.sub [0, 1] rfl
  have hKc : va_K D vwCl (cT cO) s := hK.sub [0] rfl
  have hKm : va_K D vwCl (mT cI cJ cZ) s := hK.sub [2, 3, 4] rfl
  have eS := Cq_w (Cq_20 (Cq.rf σ) 0) ax ar ad cO
  have hP : va_P D vwCl (cW ax ar ad cO (uI σ 20 0) ++ (oW bo cL v ++ mW bx ba cI cJ cZ σ)) H := by rw [← eS]; exact P_a hP
  have hD : va_D A (cW ax ar ad cO (uI σ 20 0) ++ (oW bo cL v ++ mW bx ba cI cJ cZ σ)) := by rw [← eS]; exact D_a hD
  refine lv_aload_n hx hb dL_law_1197 rfl (lv_at hl 2 rfl) ?_
  refine f_calli (va_runV (As := []) (rest := []) ⟨hx, hb, hml, hown, hts⟩ (k_X1_misses l D ax ar ad cO H.size (uI σ 20 0)) (cwV 0 hts gL_law_X1_misses rfl rfl rfl (by decide +kernel) ⟨Nat.le_of_ble_eq_true rfl, Nat.le_of_ble_eq_true rfl⟩) (xPreV xE_ok hE hKc hA (P_l hP) (D_l hD) hS (q0 := 0) (ci := 1) rfl rfl rfl) rfl rfl hl.1 rfl (lv_room (Nat.le_of_ble_eq_true rfl)) dL_law_1198 ⟨(by show cells + 0 ≤ 637657; omega), (by show slots + 0 ≤ 7183133; omega)⟩) hP hD hS hA (fun r1 u1 H locs h1 hP hD hS => ?_)
  have hP := P_c (P_b hP)
  have hD := D_c (D_b hD)
  refine lv_aload_n hx hb dL_law_1201 rfl (lv_at hl 3 rfl) ?_
  refine f_calli (va_runV (As := []) (rest := [.int r1]) ⟨hx, hb, hml, hown, hts⟩ (k_X2_misses l D bx ba cI cJ cZ H.size σ) (cwV 0 hts gL_law_X2_misses rfl rfl rfl (by decide +kernel) ⟨Nat.le_of_ble_eq_true rfl, Nat.le_of_ble_eq_true rfl⟩) (xPreV mE_ok trivial hKm hA (P_l hP) (D_l hD) hS (q0 := 0) (ci := 2) rfl rfl rfl) rfl rfl hl.1 rfl (lv_room (Nat.le_of_ble_eq_true rfl)) dL_law_1202 ⟨(by show cells + 0 + 0 ≤ 637657; omega), (by show slots + 0 + 0 ≤ 7183133; omega)⟩) hP hD hS hA (fun r2 u2 H locs h2 hP hD hS => ?_)
  have hP := P_c hP
  have hD := D_c hD
  obtain ⟨e1, eu1⟩ := h1
  obtain ⟨e2, eu2⟩ := h2
  have hu : u1 = u2 := eu1.trans eu2.symm
  have hV2 : V (n + 1) u2 := by rw [eu2]; exact V_20 hV 0
  have er : r1 = r2 := by rw [e1, e2]; rfl
  rw [hu] at hP hD
  have hP : va_P D vwCl (wA ax ar ad cO bo cL bx ba cI cJ cZ u2 v) H := hP
  have hD : va_D A (wA ax ar ad cO bo cL bx ba cI cJ cZ u2 v) := hD
  refine W.widen (k := cells + 4) (n := slots + 24) (by omega) (by omega) ?_
  refine lv_icmp_eq (tgt := 1278) hx hb dL_law_1205 (by decide) (fun _ => ?_) (fun q => absurd er q)
  exact kk u2 v _ _ _ hP hD hS hV2 hl

set_option maxHeartbeats 4000000 in
set_option maxRecDepth 100000 in
theorem c_bytesHit {p : Program} {l : Launch} {e : Env} {s : State} {m : MethodId} {below : List Frame} {meth : Method} {c : Code} {H : Heap} {locs : List Loc} {cells slots : Nat} {Q : State → Prop} {ls : Array Slot} {A : Nat → Prop} {D : va_G} {cO cL cI cJ cZ : ClassId} {b L : Nat} {xs : Nat → Int32} {ax ar : Nat} {ad : Nat → Nat} {bo bx : Nat} {ba : Nat → Nat} {n i : Nat} {σ : St} {v : Int64} (C : LC p l s m meth c A D cO cL cI cJ cZ b L xs) (hn9 : n < 2 ^ 30) (hi : i + 5 ≤ L) (hcl : cells + 4 ≤ 637657) (hsl : slots + 24 ≤ 7183133) (hV : V n σ) (hP : va_P D vwCl (wA ax ar ad cO bo cL bx ba cI cJ cZ σ v) H) (hD : va_D A (wA ax ar ad cO bo cL bx ba cI cJ cZ σ v)) (hS : va_S A s.heap H locs) (hl : lv_has ls 8 [(4, .int (nI i)), (0, .ref b), (1, .ref ax), (2, .ref bx), (3, .ref bo)])
    (kk : ∀ (σ9 : St) (v9 : Int64) (H9 : Heap) (locs9 : List Loc) (ls9 : Array Slot), va_P D vwCl (wA ax ar ad cO bo cL bx ba cI cJ cZ σ9 v9) H9 → va_D A (wA ax ar ad cO bo cL bx ba cI cJ cZ σ9 v9) → va_S A s.heap H9 locs9 → V (n + 1) σ9 → lv_has ls9 8 [(4, .int (nI i)), (0, .ref b), (1, .ref ax), (2, .ref bx), (3, .ref bo)] → W p l e room_1 s m #[Value.ref b] below meth c H9 locs9 (cells + 4) (slots + 24) Q (F0 m 1278 ls9 [])) :
    W p l e room_1 s m #[Value.ref b] below meth c H locs cells slots Q (F0 m 1210 ls []) := by
  obtain ⟨hx, hb, hml, hown, hts, hE, hK, hA, hX, hbl, hbA, hfl, hL, hlocks⟩ := C
  have hKw : va_K D vwCl (tL cO cL) s := hK.sub [0, 1] rfl
  have hKc : va_K D vwCl (cT cO) s := hK.sub [0] rfl
  have hKm : va_K D vwCl (mT cI cJ cZ) s := hK.sub [2, 3, 4] rfl
  have eS := Cq_w (Cq_20 (Cq.rf σ) 0) ax ar ad cO
  have hP : va_P D vwCl (cW ax ar ad cO (uI σ 20 0) ++ (oW bo cL v ++ mW bx ba cI cJ cZ σ)) H := by rw [← eS]; exact P_a hP
  have hD : va_D A (cW ax ar ad cO (uI σ 20 0) ++ (oW bo cL v ++ mW bx ba cI cJ cZ σ)) := by rw [← eS]; exact D_a hD
  refine lv_aload_n hx hb dL_law_1210 rfl (lv_at hl 2 rfl) ?_
  refine f_calll (va_runV (As := []) (rest := []) ⟨hx, hb, hml, hown, hts⟩ (k_X1_bytesHit l D ax ar ad cO H.size (uI σ 20 0)) (cwV 0 hts gL_law_X1_bytesHit rfl rfl rfl (by decide +kernel) ⟨Nat.le_of_ble_eq_true rfl, Nat.le_of_ble_eq_true rfl⟩) (xPreV xE_ok hE hKc hA (P_l hP) (D_l hD) hS (q0 := 0) (ci := 1) rfl rfl rfl) rfl rfl hl.1 rfl (lv_room (Nat.le_of_ble_eq_true rfl)) dL_law_1211 ⟨(by show cells + 0 ≤ 637657; omega), (by show slots + 0 ≤ 7183133; omega)⟩) hP hD hS hA (fun r1 u1 H locs h1 hP hD hS => ?_)
  have hP := P_c (P_b hP)
  have hD := D_c (D_b hD)
  refine lv_aload_n hx hb dL_law_1214 rfl (lv_at hl 3 rfl) ?_
  refine f_calll (va_runV (As := []) (rest := [.long r1]) ⟨hx, hb, hml, hown, hts⟩ (k_X2_bytesHit l D bx ba cI cJ cZ H.size σ) (cwV 0 hts gL_law_X2_bytesHit rfl rfl rfl (by decide +kernel) ⟨Nat.le_of_ble_eq_true rfl, Nat.le_of_ble_eq_true rfl⟩) (xPreV mE_ok trivial hKm hA (P_l hP) (D_l hD) hS (q0 := 0) (ci := 2) rfl rfl rfl) rfl rfl hl.1 rfl (lv_room (Nat.le_of_ble_eq_true rfl)) dL_law_1215 ⟨(by show cells + 0 + 0 ≤ 637657; omega), (by show slots + 0 + 0 ≤ 7183133; omega)⟩) hP hD hS hA (fun r2 u2 H locs h2 hP hD hS => ?_)
  have hP := P_c hP
  have hD := D_c hD
  obtain ⟨e1, eu1⟩ := h1
  obtain ⟨e2, eu2⟩ := h2
  have hu : u1 = u2 := eu1.trans eu2.symm
  have hV2 : V (n + 1) u2 := by rw [eu2]; exact V_20 hV 0
  have er : r1 = r2 := by rw [e1, e2]; rfl
  rw [hu] at hP hD
  have hP : va_P D vwCl (wA ax ar ad cO bo cL bx ba cI cJ cZ u2 v) H := hP
  have hD : va_D A (wA ax ar ad cO bo cL bx ba cI cJ cZ u2 v) := hD
  refine W.widen (k := cells + 4) (n := slots + 24) (by omega) (by omega) ?_
  refine x_eq (tgt := 1278) hx hb dL_law_1218 dL_law_1219 (by decide) (fun _ => ?_) (fun q => absurd er q)
  exact kk u2 v _ _ _ hP hD hS hV2 hl

set_option maxHeartbeats 4000000 in
set_option maxRecDepth 100000 in
theorem c_saved {p : Program} {l : Launch} {e : Env} {s : State} {m : MethodId} {below : List Frame} {meth : Method} {c : Code} {H : Heap} {locs : List Loc} {cells slots : Nat} {Q : State → Prop} {ls : Array Slot} {A : Nat → Prop} {D : va_G} {cO cL cI cJ cZ : ClassId} {b L : Nat} {xs : Nat → Int32} {ax ar : Nat} {ad : Nat → Nat} {bo bx : Nat} {ba : Nat → Nat} {n i : Nat} {σ : St} {v : Int64} (C : LC p l s m meth c A D cO cL cI cJ cZ b L xs) (hn9 : n < 2 ^ 30) (hi : i + 5 ≤ L) (hcl : cells + 4 ≤ 637657) (hsl : slots + 24 ≤ 7183133) (hV : V n σ) (hP : va_P D vwCl (wA ax ar ad cO bo cL bx ba cI cJ cZ σ v) H) (hD : va_D A (wA ax ar ad cO bo cL bx ba cI cJ cZ σ v)) (hS : va_S A s.heap H locs) (hl : lv_has ls 8 [(4, .int (nI i)), (0, .ref b), (1, .ref ax), (2, .ref bx), (3, .ref bo)])
    (kk : ∀ (σ9 : St) (v9 : Int64) (H9 : Heap) (locs9 : List Loc) (ls9 : Array Slot), va_P D vwCl (wA ax ar ad cO bo cL bx ba cI cJ cZ σ9 v9) H9 → va_D A (wA ax ar ad cO bo cL bx ba cI cJ cZ σ9 v9) → va_S A s.heap H9 locs9 → V (n + 1) σ9 → lv_has ls9 8 [(4, .int (nI i)), (0, .ref b), (1, .ref ax), (2, .ref bx), (3, .ref bo)] → W p l e room_1 s m #[Value.ref b] below meth c H9 locs9 (cells + 4) (slots + 24) Q (F0 m 1278 ls9 [])) :
    W p l e room_1 s m #[Value.ref b] below meth c H locs cells slots Q (F0 m 1224 ls []) := by
  obtain ⟨hx, hb, hml, hown, hts, hE, hK, hA, hX, hbl, hbA, hfl, hL, hlocks⟩ := C
  have hKw : va_K D vwCl (tL cO cL) s := hK.sub [0, 1] rfl
  have hKc : va_K D vwCl (cT cO) s := hK.sub [0] rfl
  have hKm : va_K D vwCl (mT cI cJ cZ) s := hK.sub [2, 3, 4] rfl
  have eS := Cq_w (Cq_20 (Cq.rf σ) 0) ax ar ad cO
  have hP : va_P D vwCl (cW ax ar ad cO (uI σ 20 0) ++ (oW bo cL v ++ mW bx ba cI cJ cZ σ)) H := by rw [← eS]; exact P_a hP
  have hD : va_D A (cW ax ar ad cO (uI σ 20 0) ++ (oW bo cL v ++ mW bx ba cI cJ cZ σ)) := by rw [← eS]; exact D_a hD
  refine lv_aload_n hx hb dL_law_1224 rfl (lv_at hl 2 rfl) ?_
  refine f_calll (va_runV (As := []) (rest := []) ⟨hx, hb, hml, hown, hts⟩ (k_X1_saved l D ax ar ad cO H.size (uI σ 20 0)) (cwV 0 hts gL_law_X1_saved rfl rfl rfl (by decide +kernel) ⟨Nat.le_of_ble_eq_true rfl, Nat.le_of_ble_eq_true rfl⟩) (xPreV xE_ok hE hKc hA (P_l hP) (D_l hD) hS (q0 := 0) (ci := 1) rfl rfl rfl) rfl rfl hl.1 rfl (lv_room (Nat.le_of_ble_eq_true rfl)) dL_law_1225 ⟨(by show cells + 0 ≤ 637657; omega), (by show slots + 0 ≤ 7183133; omega)⟩) hP hD hS hA (fun r1 u1 H locs h1 hP hD hS => ?_)
  have hP := P_c (P_b hP)
  have hD := D_c (D_b hD)
  refine lv_aload_n hx hb dL_law_1228 rfl (lv_at hl 3 rfl) ?_
  refine f_calll (va_runV (As := []) (rest := [.long r1]) ⟨hx, hb, hml, hown, hts⟩ (k_X2_saved l D bx ba cI cJ cZ H.size σ) (cwV 0 hts gL_law_X2_saved rfl rfl rfl (by decide +kernel) ⟨Nat.le_of_ble_eq_true rfl, Nat.le_of_ble_eq_true rfl⟩) (xPreV mE_ok trivial hKm hA (P_l hP) (D_l hD) hS (q0 := 0) (ci := 2) rfl rfl rfl) rfl rfl hl.1 rfl (lv_room (Nat.le_of_ble_eq_true rfl)) dL_law_1229 ⟨(by show cells + 0 + 0 ≤ 637657; omega), (by show slots + 0 + 0 ≤ 7183133; omega)⟩) hP hD hS hA (fun r2 u2 H locs h2 hP hD hS => ?_)
  have hP := P_c hP
  have hD := D_c hD
  obtain ⟨e1, eu1⟩ := h1
  obtain ⟨e2, eu2⟩ := h2
  have hu : u1 = u2 := eu1.trans eu2.symm
  have hV2 : V (n + 1) u2 := by rw [eu2]; exact V_20 hV 0
  have er : r1 = r2 := by rw [e1, e2]; rfl
  rw [hu] at hP hD
  have hP : va_P D vwCl (wA ax ar ad cO bo cL bx ba cI cJ cZ u2 v) H := hP
  have hD : va_D A (wA ax ar ad cO bo cL bx ba cI cJ cZ u2 v) := hD
  refine W.widen (k := cells + 4) (n := slots + 24) (by omega) (by omega) ?_
  refine x_eq (tgt := 1278) hx hb dL_law_1232 dL_law_1233 (by decide) (fun _ => ?_) (fun q => absurd er q)
  exact kk u2 v _ _ _ hP hD hS hV2 hl

set_option maxHeartbeats 4000000 in
set_option maxRecDepth 100000 in
theorem c_paid {p : Program} {l : Launch} {e : Env} {s : State} {m : MethodId} {below : List Frame} {meth : Method} {c : Code} {H : Heap} {locs : List Loc} {cells slots : Nat} {Q : State → Prop} {ls : Array Slot} {A : Nat → Prop} {D : va_G} {cO cL cI cJ cZ : ClassId} {b L : Nat} {xs : Nat → Int32} {ax ar : Nat} {ad : Nat → Nat} {bo bx : Nat} {ba : Nat → Nat} {n i : Nat} {σ : St} {v : Int64} (C : LC p l s m meth c A D cO cL cI cJ cZ b L xs) (hn9 : n < 2 ^ 30) (hi : i + 5 ≤ L) (hcl : cells + 4 ≤ 637657) (hsl : slots + 24 ≤ 7183133) (hV : V n σ) (hP : va_P D vwCl (wA ax ar ad cO bo cL bx ba cI cJ cZ σ v) H) (hD : va_D A (wA ax ar ad cO bo cL bx ba cI cJ cZ σ v)) (hS : va_S A s.heap H locs) (hl : lv_has ls 8 [(4, .int (nI i)), (0, .ref b), (1, .ref ax), (2, .ref bx), (3, .ref bo)])
    (kk : ∀ (σ9 : St) (v9 : Int64) (H9 : Heap) (locs9 : List Loc) (ls9 : Array Slot), va_P D vwCl (wA ax ar ad cO bo cL bx ba cI cJ cZ σ9 v9) H9 → va_D A (wA ax ar ad cO bo cL bx ba cI cJ cZ σ9 v9) → va_S A s.heap H9 locs9 → V (n + 1) σ9 → lv_has ls9 8 [(4, .int (nI i)), (0, .ref b), (1, .ref ax), (2, .ref bx), (3, .ref bo)] → W p l e room_1 s m #[Value.ref b] below meth c H9 locs9 (cells + 4) (slots + 24) Q (F0 m 1278 ls9 [])) :
    W p l e room_1 s m #[Value.ref b] below meth c H locs cells slots Q (F0 m 1238 ls []) := by
  obtain ⟨hx, hb, hml, hown, hts, hE, hK, hA, hX, hbl, hbA, hfl, hL, hlocks⟩ := C
  have hKw : va_K D vwCl (tL cO cL) s := hK.sub [0, 1] rfl
  have hKc : va_K D vwCl (cT cO) s := hK.sub [0] rfl
  have hKm : va_K D vwCl (mT cI cJ cZ) s := hK.sub [2, 3, 4] rfl
  have eS := Cq_w (Cq_20 (Cq.rf σ) 0) ax ar ad cO
  have hP : va_P D vwCl (cW ax ar ad cO (uI σ 20 0) ++ (oW bo cL v ++ mW bx ba cI cJ cZ σ)) H := by rw [← eS]; exact P_a hP
  have hD : va_D A (cW ax ar ad cO (uI σ 20 0) ++ (oW bo cL v ++ mW bx ba cI cJ cZ σ)) := by rw [← eS]; exact D_a hD
  refine lv_aload_n hx hb dL_law_1238 rfl (lv_at hl 2 rfl) ?_
  refine f_calll (va_runV (As := []) (rest := []) ⟨hx, hb, hml, hown, hts⟩ (k_X1_paid l D ax ar ad cO H.size (uI σ 20 0)) (cwV 0 hts gL_law_X1_paid rfl rfl rfl (by decide +kernel) ⟨Nat.le_of_ble_eq_true rfl, Nat.le_of_ble_eq_true rfl⟩) (xPreV xE_ok hE hKc hA (P_l hP) (D_l hD) hS (q0 := 0) (ci := 1) rfl rfl rfl) rfl rfl hl.1 rfl (lv_room (Nat.le_of_ble_eq_true rfl)) dL_law_1239 ⟨(by show cells + 0 ≤ 637657; omega), (by show slots + 0 ≤ 7183133; omega)⟩) hP hD hS hA (fun r1 u1 H locs h1 hP hD hS => ?_)
  have hP := P_c (P_b hP)
  have hD := D_c (D_b hD)
  refine lv_aload_n hx hb dL_law_1242 rfl (lv_at hl 3 rfl) ?_
  refine f_calll (va_runV (As := []) (rest := [.long r1]) ⟨hx, hb, hml, hown, hts⟩ (k_X2_paid l D bx ba cI cJ cZ H.size σ) (cwV 0 hts gL_law_X2_paid rfl rfl rfl (by decide +kernel) ⟨Nat.le_of_ble_eq_true rfl, Nat.le_of_ble_eq_true rfl⟩) (xPreV mE_ok trivial hKm hA (P_l hP) (D_l hD) hS (q0 := 0) (ci := 2) rfl rfl rfl) rfl rfl hl.1 rfl (lv_room (Nat.le_of_ble_eq_true rfl)) dL_law_1243 ⟨(by show cells + 0 + 0 ≤ 637657; omega), (by show slots + 0 + 0 ≤ 7183133; omega)⟩) hP hD hS hA (fun r2 u2 H locs h2 hP hD hS => ?_)
  have hP := P_c hP
  have hD := D_c hD
  obtain ⟨e1, eu1⟩ := h1
  obtain ⟨e2, eu2⟩ := h2
  have hu : u1 = u2 := eu1.trans eu2.symm
  have hV2 : V (n + 1) u2 := by rw [eu2]; exact V_20 hV 0
  have er : r1 = r2 := by rw [e1, e2]; rfl
  rw [hu] at hP hD
  have hP : va_P D vwCl (wA ax ar ad cO bo cL bx ba cI cJ cZ u2 v) H := hP
  have hD : va_D A (wA ax ar ad cO bo cL bx ba cI cJ cZ u2 v) := hD
  refine W.widen (k := cells + 4) (n := slots + 24) (by omega) (by omega) ?_
  refine x_eq (tgt := 1278) hx hb dL_law_1246 dL_law_1247 (by decide) (fun _ => ?_) (fun q => absurd er q)
  exact kk u2 v _ _ _ hP hD hS hV2 hl

set_option maxHeartbeats 4000000 in
set_option maxRecDepth 100000 in
theorem c_left {p : Program} {l : Launch} {e : Env} {s : State} {m : MethodId} {below : List Frame} {meth : Method} {c : Code} {H : Heap} {locs : List Loc} {cells slots : Nat} {Q : State → Prop} {ls : Array Slot} {A : Nat → Prop} {D : va_G} {cO cL cI cJ cZ : ClassId} {b L : Nat} {xs : Nat → Int32} {ax ar : Nat} {ad : Nat → Nat} {bo bx : Nat} {ba : Nat → Nat} {n i : Nat} {σ : St} {v : Int64} (C : LC p l s m meth c A D cO cL cI cJ cZ b L xs) (hn9 : n < 2 ^ 30) (hi : i + 5 ≤ L) (hcl : cells + 4 ≤ 637657) (hsl : slots + 24 ≤ 7183133) (hV : V n σ) (hP : va_P D vwCl (wA ax ar ad cO bo cL bx ba cI cJ cZ σ v) H) (hD : va_D A (wA ax ar ad cO bo cL bx ba cI cJ cZ σ v)) (hS : va_S A s.heap H locs) (hl : lv_has ls 8 [(4, .int (nI i)), (0, .ref b), (1, .ref ax), (2, .ref bx), (3, .ref bo)])
    (kk : ∀ (σ9 : St) (v9 : Int64) (H9 : Heap) (locs9 : List Loc) (ls9 : Array Slot), va_P D vwCl (wA ax ar ad cO bo cL bx ba cI cJ cZ σ9 v9) H9 → va_D A (wA ax ar ad cO bo cL bx ba cI cJ cZ σ9 v9) → va_S A s.heap H9 locs9 → V (n + 1) σ9 → lv_has ls9 8 [(4, .int (nI i)), (0, .ref b), (1, .ref ax), (2, .ref bx), (3, .ref bo)] → W p l e room_1 s m #[Value.ref b] below meth c H9 locs9 (cells + 4) (slots + 24) Q (F0 m 1278 ls9 [])) :
    W p l e room_1 s m #[Value.ref b] below meth c H locs cells slots Q (F0 m 1252 ls []) := by
  obtain ⟨hx, hb, hml, hown, hts, hE, hK, hA, hX, hbl, hbA, hfl, hL, hlocks⟩ := C
  have hKw : va_K D vwCl (tL cO cL) s := hK.sub [0, 1] rfl
  have hKc : va_K D vwCl (cT cO) s := hK.sub [0] rfl
  have hKm : va_K D vwCl (mT cI cJ cZ) s := hK.sub [2, 3, 4] rfl
  have eS := Cq_w (Cq_20 (Cq.rf σ) 0) ax ar ad cO
  have hP : va_P D vwCl (cW ax ar ad cO (uI σ 20 0) ++ (oW bo cL v ++ mW bx ba cI cJ cZ σ)) H := by rw [← eS]; exact P_a hP
  have hD : va_D A (cW ax ar ad cO (uI σ 20 0) ++ (oW bo cL v ++ mW bx ba cI cJ cZ σ)) := by rw [← eS]; exact D_a hD
  refine lv_aload_n hx hb dL_law_1252 rfl (lv_at hl 2 rfl) ?_
  refine f_calli (va_runV (As := []) (rest := []) ⟨hx, hb, hml, hown, hts⟩ (k_X1_left l D ax ar ad cO H.size (uI σ 20 0)) (cwV 0 hts gL_law_X1_left rfl rfl rfl (by decide +kernel) ⟨Nat.le_of_ble_eq_true rfl, Nat.le_of_ble_eq_true rfl⟩) (xPreV xE_ok hE hKc hA (P_l hP) (D_l hD) hS (q0 := 0) (ci := 1) rfl rfl rfl) rfl rfl hl.1 rfl (lv_room (Nat.le_of_ble_eq_true rfl)) dL_law_1253 ⟨(by show cells + 0 ≤ 637657; omega), (by show slots + 0 ≤ 7183133; omega)⟩) hP hD hS hA (fun r1 u1 H locs h1 hP hD hS => ?_)
  have hP := P_c (P_b hP)
  have hD := D_c (D_b hD)
  refine lv_aload_n hx hb dL_law_1256 rfl (lv_at hl 3 rfl) ?_
  refine f_calli (va_runV (As := []) (rest := [.int r1]) ⟨hx, hb, hml, hown, hts⟩ (k_X2_left l D bx ba cI cJ cZ H.size σ) (cwV 0 hts gL_law_X2_left rfl rfl rfl (by decide +kernel) ⟨Nat.le_of_ble_eq_true rfl, Nat.le_of_ble_eq_true rfl⟩) (xPreV mE_ok trivial hKm hA (P_l hP) (D_l hD) hS (q0 := 0) (ci := 2) rfl rfl rfl) rfl rfl hl.1 rfl (lv_room (Nat.le_of_ble_eq_true rfl)) dL_law_1257 ⟨(by show cells + 0 + 0 ≤ 637657; omega), (by show slots + 0 + 0 ≤ 7183133; omega)⟩) hP hD hS hA (fun r2 u2 H locs h2 hP hD hS => ?_)
  have hP := P_c hP
  have hD := D_c hD
  obtain ⟨e1, eu1⟩ := h1
  obtain ⟨e2, eu2⟩ := h2
  have hu : u1 = u2 := eu1.trans eu2.symm
  have hV2 : V (n + 1) u2 := by rw [eu2]; exact V_20 hV 0
  have er : r1 = r2 := by rw [e1, e2]; rfl
  rw [hu] at hP hD
  have hP : va_P D vwCl (wA ax ar ad cO bo cL bx ba cI cJ cZ u2 v) H := hP
  have hD : va_D A (wA ax ar ad cO bo cL bx ba cI cJ cZ u2 v) := hD
  refine W.widen (k := cells + 4) (n := slots + 24) (by omega) (by omega) ?_
  refine lv_icmp_eq (tgt := 1278) hx hb dL_law_1260 (by decide) (fun _ => ?_) (fun q => absurd er q)
  exact kk u2 v _ _ _ hP hD hS hV2 hl

set_option maxHeartbeats 4000000 in
set_option maxRecDepth 100000 in
theorem c_removedOver {p : Program} {l : Launch} {e : Env} {s : State} {m : MethodId} {below : List Frame} {meth : Method} {c : Code} {H : Heap} {locs : List Loc} {cells slots : Nat} {Q : State → Prop} {ls : Array Slot} {A : Nat → Prop} {D : va_G} {cO cL cI cJ cZ : ClassId} {b L : Nat} {xs : Nat → Int32} {ax ar : Nat} {ad : Nat → Nat} {bo bx : Nat} {ba : Nat → Nat} {n i : Nat} {σ : St} {v : Int64} (C : LC p l s m meth c A D cO cL cI cJ cZ b L xs) (hn9 : n < 2 ^ 30) (hi : i + 5 ≤ L) (hcl : cells + 4 ≤ 637657) (hsl : slots + 24 ≤ 7183133) (hV : V n σ) (hP : va_P D vwCl (wA ax ar ad cO bo cL bx ba cI cJ cZ σ v) H) (hD : va_D A (wA ax ar ad cO bo cL bx ba cI cJ cZ σ v)) (hS : va_S A s.heap H locs) (hl : lv_has ls 8 [(4, .int (nI i)), (0, .ref b), (1, .ref ax), (2, .ref bx), (3, .ref bo)])
    (kk : ∀ (σ9 : St) (v9 : Int64) (H9 : Heap) (locs9 : List Loc) (ls9 : Array Slot), va_P D vwCl (wA ax ar ad cO bo cL bx ba cI cJ cZ σ9 v9) H9 → va_D A (wA ax ar ad cO bo cL bx ba cI cJ cZ σ9 v9) → va_S A s.heap H9 locs9 → V (n + 1) σ9 → lv_has ls9 8 [(4, .int (nI i)), (0, .ref b), (1, .ref ax), (2, .ref bx), (3, .ref bo)] → W p l e room_1 s m #[Value.ref b] below meth c H9 locs9 (cells + 4) (slots + 24) Q (F0 m 1278 ls9 [])) :
    W p l e room_1 s m #[Value.ref b] below meth c H locs cells slots Q (F0 m 1265 ls []) := by
  obtain ⟨hx, hb, hml, hown, hts, hE, hK, hA, hX, hbl, hbA, hfl, hL, hlocks⟩ := C
  have hKw : va_K D vwCl (tL cO cL) s := hK.sub [0, 1] rfl
  have hKc : va_K D vwCl (cT cO) s := hK.sub [0] rfl
  have hKm : va_K D vwCl (mT cI cJ cZ) s := hK.sub [2, 3, 4] rfl
  have eS := Cq_w (Cq_20 (Cq.rf σ) 0) ax ar ad cO
  have hP : va_P D vwCl (cW ax ar ad cO (uI σ 20 0) ++ (oW bo cL v ++ mW bx ba cI cJ cZ σ)) H := by rw [← eS]; exact P_a hP
  have hD : va_D A (cW ax ar ad cO (uI σ 20 0) ++ (oW bo cL v ++ mW bx ba cI cJ cZ σ)) := by rw [← eS]; exact D_a hD
  refine lv_aload_n hx hb dL_law_1265 rfl (lv_at hl 2 rfl) ?_
  refine f_calli (va_runV (As := []) (rest := []) ⟨hx, hb, hml, hown, hts⟩ (k_X1_removedOver l D ax ar ad cO H.size (uI σ 20 0)) (cwV 0 hts gL_law_X1_removedOver rfl rfl rfl (by decide +kernel) ⟨Nat.le_of_ble_eq_true rfl, Nat.le_of_ble_eq_true rfl⟩) (xPreV xE_ok hE hKc hA (P_l hP) (D_l hD) hS (q0 := 0) (ci := 1) rfl rfl rfl) rfl rfl hl.1 rfl (lv_room (Nat.le_of_ble_eq_true rfl)) dL_law_1266 ⟨(by show cells + 0 ≤ 637657; omega), (by show slots + 0 ≤ 7183133; omega)⟩) hP hD hS hA (fun r1 u1 H locs h1 hP hD hS => ?_)
  have hP := P_c (P_b hP)
  have hD := D_c (D_b hD)
  refine lv_aload_n hx hb dL_law_1269 rfl (lv_at hl 3 rfl) ?_
  refine f_calli (va_runV (As := []) (rest := [.int r1]) ⟨hx, hb, hml, hown, hts⟩ (k_X2_removedOver l D bx ba cI cJ cZ H.size σ) (cwV 0 hts gL_law_X2_removedOver rfl rfl rfl (by decide +kernel) ⟨Nat.le_of_ble_eq_true rfl, Nat.le_of_ble_eq_true rfl⟩) (xPreV mE_ok trivial hKm hA (P_l hP) (D_l hD) hS (q0 := 0) (ci := 2) rfl rfl rfl) rfl rfl hl.1 rfl (lv_room (Nat.le_of_ble_eq_true rfl)) dL_law_1270 ⟨(by show cells + 0 + 0 ≤ 637657; omega), (by show slots + 0 + 0 ≤ 7183133; omega)⟩) hP hD hS hA (fun r2 u2 H locs h2 hP hD hS => ?_)
  have hP := P_c hP
  have hD := D_c hD
  obtain ⟨e1, eu1⟩ := h1
  obtain ⟨e2, eu2⟩ := h2
  have hu : u1 = u2 := eu1.trans eu2.symm
  have hV2 : V (n + 1) u2 := by rw [eu2]; exact V_20 hV 0
  have er : r1 = r2 := by rw [e1, e2]; rfl
  rw [hu] at hP hD
  have hP : va_P D vwCl (wA ax ar ad cO bo cL bx ba cI cJ cZ u2 v) H := hP
  have hD : va_D A (wA ax ar ad cO bo cL bx ba cI cJ cZ u2 v) := hD
  refine W.widen (k := cells + 4) (n := slots + 24) (by omega) (by omega) ?_
  refine lv_icmp_eq (tgt := 1278) hx hb dL_law_1273 (by decide) (fun _ => ?_) (fun q => absurd er q)
  exact kk u2 v _ _ _ hP hD hS hV2 hl
