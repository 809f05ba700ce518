set_option maxHeartbeats 4000000 in
set_option maxRecDepth 100000 in
theorem c_setCapacity {p : Program} {l : Launch} {e : Env} {s : State} {m : MethodId} {below : List Frame} {meth : Method} {c : Code} {H : Heap} {locs : List Loc} {cells slots : Nat} {Q : State → Prop} {ls : Array Slot} {A : Nat → Prop} {D : va_G} {cO cL cI cJ cZ : ClassId} {b L : Nat} {xs : Nat → Int32} {ax ar : Nat} {ad : Nat → Nat} {bo bx : Nat} {ba : Nat → Nat} {n i : Nat} {σ : St} {v : Int64} (C : LC p l s m meth c A D cO cL cI cJ cZ b L xs) (hn9 : n < 2 ^ 30) (hi : i + 5 ≤ L) (hcl : cells + 4 ≤ 637657) (hsl : slots + 24 ≤ 7183133) (hV : V n σ) (hP : va_P D vwCl (wA ax ar ad cO bo cL bx ba cI cJ cZ σ v) H) (hD : va_D A (wA ax ar ad cO bo cL bx ba cI cJ cZ σ v)) (hS : va_S A s.heap H locs) (hl : lv_has ls 8 [(4, .int (nI i)), (0, .ref b), (1, .ref ax), (2, .ref bx), (3, .ref bo)])
    (kk : ∀ (σ9 : St) (v9 : Int64) (H9 : Heap) (locs9 : List Loc) (ls9 : Array Slot), va_P D vwCl (wA ax ar ad cO bo cL bx ba cI cJ cZ σ9 v9) H9 → va_D A (wA ax ar ad cO bo cL bx ba cI cJ cZ σ9 v9) → va_S A s.heap H9 locs9 → V (n + 1) σ9 → lv_has ls9 8 [(4, .int (nI i)), (0, .ref b), (1, .ref ax), (2, .ref bx), (3, .ref bo)] → W p l e room_1 s m #[Value.ref b] below meth c H9 locs9 (cells + 4) (slots + 24) Q (F0 m 1278 ls9 [])) :
    W p l e room_1 s m #[Value.ref b] below meth c H locs cells slots Q (F0 m 476 ls []) := by
  obtain ⟨hx, hb, hml, hown, hts, hE, hK, hA, hX, hbl, hbA, hfl, hL, hlocks⟩ := C
  have hKw : va_K D vwCl (tL cO cL) s := hK.sub [0, 1] rfl
  have hKc : va_K D vwCl (cT cO) s := hK.sub [0] rfl
  have hKm : va_K D vwCl (mT cI cJ cZ) s := hK.sub [2, 3, 4] rfl
  obtain ⟨N, τ, hh, hg⟩ := g_setCapacity (v := v) (t := (xs (i + 1))) hV hn9
  have eS := Cq_w (Cq_20 (Cq.rf σ) 0) ax ar ad cO
  have hP : va_P D vwCl (wL ax ar ad cO bo cL ((uI σ 20 0), v) ++ mW bx ba cI cJ cZ σ) H := by show va_P D vwCl ((cW ax ar ad cO (uI σ 20 0) ++ oW bo cL v) ++ mW bx ba cI cJ cZ σ) H; rw [← eS]; exact hP
  have hD : va_D A (wL ax ar ad cO bo cL ((uI σ 20 0), v) ++ mW bx ba cI cJ cZ σ) := by show va_D A ((cW ax ar ad cO (uI σ 20 0) ++ oW bo cL v) ++ mW bx ba cI cJ cZ σ); rw [← eS]; exact hD
  refine lv_aload_n hx hb dL_law_476 rfl (lv_at hl 2 rfl) ?_
  refine s_arg (k := 1) hx hb hX hbl hbA hS hL (by omega) (lv_at hl 1 rfl) (lv_at hl 0 rfl) (by decide) dL_law_477 dL_law_478 dL_law_480 dL_law_481 dL_law_482 ?_
  refine lv_aload_n hx hb dL_law_483 rfl (lv_at hl 4 rfl) ?_
  refine f_calli (vx_runSW (As := [.ref ax, .int (xs (i + 1)), .ref bo]) (rest := []) ⟨hx, hb, hml, hown, hts⟩ (k_L_setCapacity l D ax ar ad cO bo cL H.size (uI σ 20 0) v (xs (i + 1)) hfl) (vx_cwSW 3 hts gL_law_L_setCapacity rfl rfl rfl (by decide +kernel) ⟨Nat.le_of_ble_eq_true rfl, Nat.le_of_ble_eq_true rfl⟩) (xPreS xE_ok hE hKw hA (P_l hP) (D_l hD) hS) rfl rfl hl.1 rfl (lv_room (Nat.le_of_ble_eq_true rfl)) dL_law_484 ⟨(by show cells + 2 ≤ 637657; omega), (by show slots + 12 ≤ 7183133; omega)⟩) hP hD hS hA (fun r u1 H locs h1 hP hD hS => ?_)
  refine lv_istore (lv' := [(5, .int r), (4, .int (nI i)), (0, .ref b), (1, .ref ax), (2, .ref bx), (3, .ref bo)]) hx hb dL_law_487 hl (by decide) rfl (fun ls hl => ?_)
  refine lv_aload_n hx hb dL_law_489 rfl (lv_at hl 4 rfl) ?_
  refine s_arg (k := 1) hx hb hX hbl hbA hS hL (by omega) (lv_at hl 2 rfl) (lv_at hl 1 rfl) (by decide) dL_law_490 dL_law_491 dL_law_493 dL_law_494 dL_law_495 ?_
  have hP := P_c hP
  have hD := D_c hD
  refine f_calli (va_runV (As := [.int (xs (i + 1))]) (rest := []) ⟨hx, hb, hml, hown, hts⟩ (k_X2_setCapacity l D bx ba cI cJ cZ H.size σ (xs (i + 1)) N τ hh) (cwV 1 hts gL_law_X2_setCapacity rfl rfl rfl (by decide +kernel) ⟨Nat.le_of_ble_eq_true rfl, Nat.le_of_ble_eq_true rfl⟩) (xPreV mE_ok trivial hKm hA (P_l hP) (D_l hD) hS (q0 := 0) (ci := 2) rfl rfl rfl) rfl rfl hl.1 rfl (lv_room (Nat.le_of_ble_eq_true rfl)) dL_law_496 ⟨(by show cells + 2 + 0 ≤ 637657; omega), (by show slots + 12 + 0 ≤ 7183133; omega)⟩) hP hD hS hA (fun r2 u2 H locs h2 hP hD hS => ?_)
  obtain ⟨g1, g2, g3, g4⟩ := hg r u1 r2 u2 h1 h2
  refine lv_istore (lv' := [(6, .int r2), (5, .int r), (4, .int (nI i)), (0, .ref b), (1, .ref ax), (2, .ref bx), (3, .ref bo)]) hx hb dL_law_499 hl (by decide) rfl (fun ls hl => ?_)
  refine lv_aload_n hx hb dL_law_501 rfl (lv_at hl 5 rfl) ?_
  refine f_calli (va_runV (As := []) (rest := []) ⟨hx, hb, hml, hown, hts⟩ (k_X2_thrown l D bx ba cI cJ cZ H.size u2) (cwV 0 hts gL_law_X2_thrown rfl rfl rfl (by decide +kernel) ⟨Nat.le_of_ble_eq_true rfl, Nat.le_of_ble_eq_true rfl⟩) (xPreV mE_ok trivial hKm hA (P_l hP) (D_l hD) hS (q0 := 0) (ci := 2) rfl rfl rfl) rfl rfl hl.1 rfl (lv_room (Nat.le_of_ble_eq_true rfl)) dL_law_502 ⟨(by show cells + 2 + 0 + 0 ≤ 637657; omega), (by show slots + 12 + 0 + 0 ≤ 7183133; omega)⟩) hP hD hS hA (fun r3 u3 H locs h3 hP hD hS => ?_)
  obtain ⟨e3, eu3⟩ := h3
  rw [eu3] at hP hD
  have hP := P_c hP
  have hD := D_c hD
  have eW := Cq_w g1 ax ar ad cO
  have hP : va_P D vwCl (wA ax ar ad cO bo cL bx ba cI cJ cZ u2 u1.2) H := by show va_P D vwCl ((cW ax ar ad cO u2 ++ oW bo cL u1.2) ++ mW bx ba cI cJ cZ u2) H; rw [← eW]; exact hP
  have hD : va_D A (wA ax ar ad cO bo cL bx ba cI cJ cZ u2 u1.2) := by show va_D A ((cW ax ar ad cO u2 ++ oW bo cL u1.2) ++ mW bx ba cI cJ cZ u2); rw [← eW]; exact hD
  refine W.widen (k := cells + 4) (n := slots + 24) (by omega) (by omega) ?_
  refine lv_iload hx hb dL_law_505 (lv_at hl 1 rfl) ?_
  refine lv_icmp_eq (tgt := 512) hx hb dL_law_507 (by decide) (fun _ => ?_) (fun q => absurd (e3.trans g3.symm) q)
  refine lv_iload hx hb dL_law_512 (lv_at hl 1 rfl) ?_
  refine lv_if_ne (tgt := 529) hx hb dL_law_514 (by decide) (fun _ => ?_) (fun q0 => ?_)
  · refine lv_goto (tgt := 1278) hx hb dL_law_529 (by decide) ?_
    exact kk u2 u1.2 _ _ _ hP hD hS g2 (lv_sub hl [2, 3, 4, 5, 6] rfl)
  · refine lv_aload_n hx hb dL_law_517 rfl (lv_at hl 6 rfl) ?_
    refine lv_iconst (v := 0) hx hb dL_law_518 (by decide) ?_
    refine va_lald hx hb hK (P_r (P_l hP)) 0 1 rfl rfl (by unfold vp_in; decide) dL_law_519 ?_
    refine lv_iload hx hb dL_law_520 (lv_at hl 0 rfl) ?_
    refine lv_i2l hx hb dL_law_522 rfl ?_
    refine x_eq (tgt := 529) hx hb dL_law_523 dL_law_524 (by decide) (fun _ => ?_) (fun q9 => absurd (g4 q0) q9)
    refine lv_goto (tgt := 1278) hx hb dL_law_529 (by decide) ?_
    exact kk u2 u1.2 _ _ _ hP hD hS g2 (lv_sub hl [2, 3, 4, 5, 6] rfl)

set_option maxHeartbeats 4000000 in
set_option maxRecDepth 100000 in
theorem c_setThreshold {p : Program} {l : Launch} {e : Env} {s : State} {m : MethodId} {below : List Frame} {meth : Method} {c : Code} {H : Heap} {locs : List Loc} {cells slots : Nat} {Q : State → Prop} {ls : Array Slot} {A : Nat → Prop} {D : va_G} {cO cL cI cJ cZ : ClassId} {b L : Nat} {xs : Nat → Int32} {ax ar : Nat} {ad : Nat → Nat} {bo bx : Nat} {ba : Nat → Nat} {n i : Nat} {σ : St} {v : Int64} (C : LC p l s m meth c A D cO cL cI cJ cZ b L xs) (hn9 : n < 2 ^ 30) (hi : i + 5 ≤ L) (hcl : cells + 4 ≤ 637657) (hsl : slots + 24 ≤ 7183133) (hV : V n σ) (hP : va_P D vwCl (wA ax ar ad cO bo cL bx ba cI cJ cZ σ v) H) (hD : va_D A (wA ax ar ad cO bo cL bx ba cI cJ cZ σ v)) (hS : va_S A s.heap H locs) (hl : lv_has ls 8 [(4, .int (nI i)), (0, .ref b), (1, .ref ax), (2, .ref bx), (3, .ref bo)])
    (kk : ∀ (σ9 : St) (v9 : Int64) (H9 : Heap) (locs9 : List Loc) (ls9 : Array Slot), va_P D vwCl (wA ax ar ad cO bo cL bx ba cI cJ cZ σ9 v9) H9 → va_D A (wA ax ar ad cO bo cL bx ba cI cJ cZ σ9 v9) → va_S A s.heap H9 locs9 → V (n + 1) σ9 → lv_has ls9 8 [(4, .int (nI i)), (0, .ref b), (1, .ref ax), (2, .ref bx), (3, .ref bo)] → W p l e room_1 s m #[Value.ref b] below meth c H9 locs9 (cells + 4) (slots + 24) Q (F0 m 1278 ls9 [])) :
    W p l e room_1 s m #[Value.ref b] below meth c H locs cells slots Q (F0 m 532 ls []) := by
  obtain ⟨hx, hb, hml, hown, hts, hE, hK, hA, hX, hbl, hbA, hfl, hL, hlocks⟩ := C
  have hKw : va_K D vwCl (tL cO cL) s := hK.sub [0, 1] rfl
  have hKc : va_K D vwCl (cT cO) s := hK.sub [0] rfl
  have hKm : va_K D vwCl (mT cI cJ cZ) s := hK.sub [2, 3, 4] rfl
  have eS := Cq_w (Cq_20 (Cq.rf σ) 0) ax ar ad cO
  have hP : va_P D vwCl (wL ax ar ad cO bo cL ((uI σ 20 0), v) ++ mW bx ba cI cJ cZ σ) H := by show va_P D vwCl ((cW ax ar ad cO (uI σ 20 0) ++ oW bo cL v) ++ mW bx ba cI cJ cZ σ) H; rw [← eS]; exact hP
  have hD : va_D A (wL ax ar ad cO bo cL ((uI σ 20 0), v) ++ mW bx ba cI cJ cZ σ) := by show va_D A ((cW ax ar ad cO (uI σ 20 0) ++ oW bo cL v) ++ mW bx ba cI cJ cZ σ); rw [← eS]; exact hD
  refine lv_aload_n hx hb dL_law_532 rfl (lv_at hl 2 rfl) ?_
  refine s_arg (k := 1) hx hb hX hbl hbA hS hL (by omega) (lv_at hl 1 rfl) (lv_at hl 0 rfl) (by decide) dL_law_533 dL_law_534 dL_law_536 dL_law_537 dL_law_538 ?_
  refine lv_aload_n hx hb dL_law_539 rfl (lv_at hl 4 rfl) ?_
  refine f_calli (vx_runSW (As := [.ref ax, .int (xs (i + 1)), .ref bo]) (rest := []) ⟨hx, hb, hml, hown, hts⟩ (k_L_setThreshold l D ax ar ad cO bo cL H.size (uI σ 20 0) v (xs (i + 1)) hfl) (vx_cwSW 3 hts gL_law_L_setThreshold rfl rfl rfl (by decide +kernel) ⟨Nat.le_of_ble_eq_true rfl, Nat.le_of_ble_eq_true rfl⟩) (xPreS xE_ok hE hKw hA (P_l hP) (D_l hD) hS) rfl rfl hl.1 rfl (lv_room (Nat.le_of_ble_eq_true rfl)) dL_law_540 ⟨(by show cells + 1 ≤ 637657; omega), (by show slots + 6 ≤ 7183133; omega)⟩) hP hD hS hA (fun r u1 H locs h1 hP hD hS => ?_)
  refine lv_istore (lv' := [(5, .int r), (4, .int (nI i)), (0, .ref b), (1, .ref ax), (2, .ref bx), (3, .ref bo)]) hx hb dL_law_543 hl (by decide) rfl (fun ls hl => ?_)
  refine lv_aload_n hx hb dL_law_545 rfl (lv_at hl 4 rfl) ?_
  refine s_arg (k := 1) hx hb hX hbl hbA hS hL (by omega) (lv_at hl 2 rfl) (lv_at hl 1 rfl) (by decide) dL_law_546 dL_law_547 dL_law_549 dL_law_550 dL_law_551 ?_
  have hP := P_c hP
  have hD := D_c hD
  refine f_calli (va_runV (As := [.int (xs (i + 1))]) (rest := []) ⟨hx, hb, hml, hown, hts⟩ (k_X2_setThreshold l D bx ba cI cJ cZ H.size σ (xs (i + 1))) (cwV 1 hts gL_law_X2_setThreshold rfl rfl rfl (by decide +kernel) ⟨Nat.le_of_ble_eq_true rfl, Nat.le_of_ble_eq_true rfl⟩) (xPreV mE_ok trivial hKm hA (P_l hP) (D_l hD) hS (q0 := 0) (ci := 2) rfl rfl rfl) rfl rfl hl.1 rfl (lv_room (Nat.le_of_ble_eq_true rfl)) dL_law_552 ⟨(by show cells + 1 + 0 ≤ 637657; omega), (by show slots + 6 + 0 ≤ 7183133; omega)⟩) hP hD hS hA (fun r2 u2 H locs h2 hP hD hS => ?_)
  obtain ⟨g1, g2, g3, g4⟩ := g_setThreshold hV h1 h2
  refine lv_istore (lv' := [(6, .int r2), (5, .int r), (4, .int (nI i)), (0, .ref b), (1, .ref ax), (2, .ref bx), (3, .ref bo)]) hx hb dL_law_555 hl (by decide) rfl (fun ls hl => ?_)
  refine lv_aload_n hx hb dL_law_557 rfl (lv_at hl 5 rfl) ?_
  refine f_calli (va_runV (As := []) (rest := []) ⟨hx, hb, hml, hown, hts⟩ (k_X2_thrown l D bx ba cI cJ cZ H.size u2) (cwV 0 hts gL_law_X2_thrown rfl rfl rfl (by decide +kernel) ⟨Nat.le_of_ble_eq_true rfl, Nat.le_of_ble_eq_true rfl⟩) (xPreV mE_ok trivial hKm hA (P_l hP) (D_l hD) hS (q0 := 0) (ci := 2) rfl rfl rfl) rfl rfl hl.1 rfl (lv_room (Nat.le_of_ble_eq_true rfl)) dL_law_558 ⟨(by show cells + 1 + 0 + 0 ≤ 637657; omega), (by show slots + 6 + 0 + 0 ≤ 7183133; omega)⟩) hP hD hS hA (fun r3 u3 H locs h3 hP hD hS => ?_)
  obtain ⟨e3, eu3⟩ := h3
  rw [eu3] at hP hD
  have hP := P_c hP
  have hD := D_c hD
  have eW := Cq_w g1 ax ar ad cO
  have hP : va_P D vwCl (wA ax ar ad cO bo cL bx ba cI cJ cZ u2 u1.2) H := by show va_P D vwCl ((cW ax ar ad cO u2 ++ oW bo cL u1.2) ++ mW bx ba cI cJ cZ u2) H; rw [← eW]; exact hP
  have hD : va_D A (wA ax ar ad cO bo cL bx ba cI cJ cZ u2 u1.2) := by show va_D A ((cW ax ar ad cO u2 ++ oW bo cL u1.2) ++ mW bx ba cI cJ cZ u2); rw [← eW]; exact hD
  refine W.widen (k := cells + 4) (n := slots + 24) (by omega) (by omega) ?_
  refine lv_iload hx hb dL_law_561 (lv_at hl 1 rfl) ?_
  refine lv_icmp_eq (tgt := 568) hx hb dL_law_563 (by decide) (fun _ => ?_) (fun q => absurd (e3.trans g3.symm) q)
  refine lv_iload hx hb dL_law_568 (lv_at hl 1 rfl) ?_
  refine lv_if_ne (tgt := 585) hx hb dL_law_570 (by decide) (fun _ => ?_) (fun q0 => ?_)
  · refine lv_goto (tgt := 1278) hx hb dL_law_585 (by decide) ?_
    exact kk u2 u1.2 _ _ _ hP hD hS g2 (lv_sub hl [2, 3, 4, 5, 6] rfl)
  · refine lv_aload_n hx hb dL_law_573 rfl (lv_at hl 6 rfl) ?_
    refine lv_iconst (v := 0) hx hb dL_law_574 (by decide) ?_
    refine va_lald hx hb hK (P_r (P_l hP)) 0 1 rfl rfl (by unfold vp_in; decide) dL_law_575 ?_
    refine lv_iload hx hb dL_law_576 (lv_at hl 0 rfl) ?_
    refine lv_i2l hx hb dL_law_578 rfl ?_
    refine x_eq (tgt := 585) hx hb dL_law_579 dL_law_580 (by decide) (fun _ => ?_) (fun q9 => absurd (g4 q0) q9)
    refine lv_goto (tgt := 1278) hx hb dL_law_585 (by decide) ?_
    exact kk u2 u1.2 _ _ _ hP hD hS g2 (lv_sub hl [2, 3, 4, 5, 6] rfl)

set_option maxHeartbeats 4000000 in
set_option maxRecDepth 100000 in
theorem c_has {p : Program} {l : Launch} {e : Env} {s : State} {m : MethodId} {below : List Frame} {meth : Method} {c : Code} {H : Heap} {locs : List Loc} {cells slots : Nat} {Q : State → Prop} {ls : Array Slot} {A : Nat → Prop} {D : va_G} {cO cL cI cJ cZ : ClassId} {b L : Nat} {xs : Nat → Int32} {ax ar : Nat} {ad : Nat → Nat} {bo bx : Nat} {ba : Nat → Nat} {n i : Nat} {σ : St} {v : Int64} (C : LC p l s m meth c A D cO cL cI cJ cZ b L xs) (hn9 : n < 2 ^ 30) (hi : i + 5 ≤ L) (hcl : cells + 4 ≤ 637657) (hsl : slots + 24 ≤ 7183133) (hV : V n σ) (hP : va_P D vwCl (wA ax ar ad cO bo cL bx ba cI cJ cZ σ v) H) (hD : va_D A (wA ax ar ad cO bo cL bx ba cI cJ cZ σ v)) (hS : va_S A s.heap H locs) (hl : lv_has ls 8 [(4, .int (nI i)), (0, .ref b), (1, .ref ax), (2, .ref bx), (3, .ref bo)])
    (kk : ∀ (σ9 : St) (v9 : Int64) (H9 : Heap) (locs9 : List Loc) (ls9 : Array Slot), va_P D vwCl (wA ax ar ad cO bo cL bx ba cI cJ cZ σ9 v9) H9 → va_D A (wA ax ar ad cO bo cL bx ba cI cJ cZ σ9 v9) → va_S A s.heap H9 locs9 → V (n + 1) σ9 → lv_has ls9 8 [(4, .int (nI i)), (0, .ref b), (1, .ref ax), (2, .ref bx), (3, .ref bo)] → W p l e room_1 s m #[Value.ref b] below meth c H9 locs9 (cells + 4) (slots + 24) Q (F0 m 1278 ls9 [])) :
    W p l e room_1 s m #[Value.ref b] below meth c H locs cells slots Q (F0 m 588 ls []) := by
  obtain ⟨hx, hb, hml, hown, hts, hE, hK, hA, hX, hbl, hbA, hfl, hL, hlocks⟩ := C
  have hKw : va_K D vwCl (tL cO cL) s := hK.sub [0, 1] rfl
  have hKc : va_K D vwCl (cT cO) s := hK.sub [0] rfl
  have hKm : va_K D vwCl (mT cI cJ cZ) s := hK.sub [2, 3, 4] rfl
  have eS := Cq_w (Cq_20 (Cq.rf σ) 0) ax ar ad cO
  have hP : va_P D vwCl (wL ax ar ad cO bo cL ((uI σ 20 0), v) ++ mW bx ba cI cJ cZ σ) H := by show va_P D vwCl ((cW ax ar ad cO (uI σ 20 0) ++ oW bo cL v) ++ mW bx ba cI cJ cZ σ) H; rw [← eS]; exact hP
  have hD : va_D A (wL ax ar ad cO bo cL ((uI σ 20 0), v) ++ mW bx ba cI cJ cZ σ) := by show va_D A ((cW ax ar ad cO (uI σ 20 0) ++ oW bo cL v) ++ mW bx ba cI cJ cZ σ); rw [← eS]; exact hD
  refine lv_aload_n hx hb dL_law_588 rfl (lv_at hl 2 rfl) ?_
  refine s_arg (k := 1) hx hb hX hbl hbA hS hL (by omega) (lv_at hl 1 rfl) (lv_at hl 0 rfl) (by decide) dL_law_589 dL_law_590 dL_law_592 dL_law_593 dL_law_594 ?_
  refine lv_aload_n hx hb dL_law_595 rfl (lv_at hl 4 rfl) ?_
  refine f_calli (vx_runSW (As := [.ref ax, .int (xs (i + 1)), .ref bo]) (rest := []) ⟨hx, hb, hml, hown, hts⟩ (k_L_has l D ax ar ad cO bo cL H.size (uI σ 20 0) v (xs (i + 1)) hfl) (vx_cwSW 3 hts gL_law_L_has rfl rfl rfl (by decide +kernel) ⟨Nat.le_of_ble_eq_true rfl, Nat.le_of_ble_eq_true rfl⟩) (xPreS xE_ok hE hKw hA (P_l hP) (D_l hD) hS) rfl rfl hl.1 rfl (lv_room (Nat.le_of_ble_eq_true rfl)) dL_law_596 ⟨(by show cells + 1 ≤ 637657; omega), (by show slots + 6 ≤ 7183133; omega)⟩) hP hD hS hA (fun r u1 H locs h1 hP hD hS => ?_)
  refine lv_istore (lv' := [(5, .int r), (4, .int (nI i)), (0, .ref b), (1, .ref ax), (2, .ref bx), (3, .ref bo)]) hx hb dL_law_599 hl (by decide) rfl (fun ls hl => ?_)
  refine lv_aload_n hx hb dL_law_601 rfl (lv_at hl 4 rfl) ?_
  refine s_arg (k := 1) hx hb hX hbl hbA hS hL (by omega) (lv_at hl 2 rfl) (lv_at hl 1 rfl) (by decide) dL_law_602 dL_law_603 dL_law_605 dL_law_606 dL_law_607 ?_
  have hP := P_c hP
  have hD := D_c hD
  refine f_calli (va_runV (As := [.int (xs (i + 1))]) (rest := []) ⟨hx, hb, hml, hown, hts⟩ (k_X2_has l D bx ba cI cJ cZ H.size σ (xs (i + 1))) (cwV 1 hts gL_law_X2_has rfl rfl rfl (by decide +kernel) ⟨Nat.le_of_ble_eq_true rfl, Nat.le_of_ble_eq_true rfl⟩) (xPreV mE_ok trivial hKm hA (P_l hP) (D_l hD) hS (q0 := 0) (ci := 2) rfl rfl rfl) rfl rfl hl.1 rfl (lv_room (Nat.le_of_ble_eq_true rfl)) dL_law_608 ⟨(by show cells + 1 + 0 ≤ 637657; omega), (by show slots + 6 + 0 ≤ 7183133; omega)⟩) hP hD hS hA (fun r2 u2 H locs h2 hP hD hS => ?_)
  obtain ⟨g1, g2, g3, g4⟩ := g_has hV h1 h2
  refine lv_istore (lv' := [(6, .int r2), (5, .int r), (4, .int (nI i)), (0, .ref b), (1, .ref ax), (2, .ref bx), (3, .ref bo)]) hx hb dL_law_611 hl (by decide) rfl (fun ls hl => ?_)
  refine lv_aload_n hx hb dL_law_613 rfl (lv_at hl 5 rfl) ?_
  refine f_calli (va_runV (As := []) (rest := []) ⟨hx, hb, hml, hown, hts⟩ (k_X2_thrown l D bx ba cI cJ cZ H.size u2) (cwV 0 hts gL_law_X2_thrown rfl rfl rfl (by decide +kernel) ⟨Nat.le_of_ble_eq_true rfl, Nat.le_of_ble_eq_true rfl⟩) (xPreV mE_ok trivial hKm hA (P_l hP) (D_l hD) hS (q0 := 0) (ci := 2) rfl rfl rfl) rfl rfl hl.1 rfl (lv_room (Nat.le_of_ble_eq_true rfl)) dL_law_614 ⟨(by show cells + 1 + 0 + 0 ≤ 637657; omega), (by show slots + 6 + 0 + 0 ≤ 7183133; omega)⟩) hP hD hS hA (fun r3 u3 H locs h3 hP hD hS => ?_)
  obtain ⟨e3, eu3⟩ := h3
  rw [eu3] at hP hD
  have hP := P_c hP
  have hD := D_c hD
  have eW := Cq_w g1 ax ar ad cO
  have hP : va_P D vwCl (wA ax ar ad cO bo cL bx ba cI cJ cZ u2 u1.2) H := by show va_P D vwCl ((cW ax ar ad cO u2 ++ oW bo cL u1.2) ++ mW bx ba cI cJ cZ u2) H; rw [← eW]; exact hP
  have hD : va_D A (wA ax ar ad cO bo cL bx ba cI cJ cZ u2 u1.2) := by show va_D A ((cW ax ar ad cO u2 ++ oW bo cL u1.2) ++ mW bx ba cI cJ cZ u2); rw [← eW]; exact hD
  refine W.widen (k := cells + 4) (n := slots + 24) (by omega) (by omega) ?_
  refine lv_iload hx hb dL_law_617 (lv_at hl 1 rfl) ?_
  refine lv_icmp_eq (tgt := 624) hx hb dL_law_619 (by decide) (fun _ => ?_) (fun q => absurd (e3.trans g3.symm) q)
  refine lv_iload hx hb dL_law_624 (lv_at hl 1 rfl) ?_
  refine lv_if_ne (tgt := 648) hx hb dL_law_626 (by decide) (fun _ => ?_) (fun q0 => ?_)
  · refine lv_goto (tgt := 1278) hx hb dL_law_648 (by decide) ?_
    exact kk u2 u1.2 _ _ _ hP hD hS g2 (lv_sub hl [2, 3, 4, 5, 6] rfl)
  · refine lv_aload_n hx hb dL_law_629 rfl (lv_at hl 6 rfl) ?_
    refine lv_iconst (v := 0) hx hb dL_law_630 (by decide) ?_
    refine va_lald hx hb hK (P_r (P_l hP)) 0 1 rfl rfl (by unfold vp_in; decide) dL_law_631 ?_
    refine lv_iload hx hb dL_law_632 (lv_at hl 0 rfl) ?_
    refine s_l01 hx hb dL_law_634 dL_law_637 dL_law_638 dL_law_641 ?_
    refine x_eq (tgt := 648) hx hb dL_law_642 dL_law_643 (by decide) (fun _ => ?_) (fun q9 => absurd (g4 q0) q9)
    refine lv_goto (tgt := 1278) hx hb dL_law_648 (by decide) ?_
    exact kk u2 u1.2 _ _ _ hP hD hS g2 (lv_sub hl [2, 3, 4, 5, 6] rfl)

set_option maxHeartbeats 4000000 in
set_option maxRecDepth 100000 in
theorem c_isOver {p : Program} {l : Launch} {e : Env} {s : State} {m : MethodId} {below : List Frame} {meth : Method} {c : Code} {H : Heap} {locs : List Loc} {cells slots : Nat} {Q : State → Prop} {ls : Array Slot} {A : Nat → Prop} {D : va_G} {cO cL cI cJ cZ : ClassId} {b L : Nat} {xs : Nat → Int32} {ax ar : Nat} {ad : Nat → Nat} {bo bx : Nat} {ba : Nat → Nat} {n i : Nat} {σ : St} {v : Int64} (C : LC p l s m meth c A D cO cL cI cJ cZ b L xs) (hn9 : n < 2 ^ 30) (hi : i + 5 ≤ L) (hcl : cells + 4 ≤ 637657) (hsl : slots + 24 ≤ 7183133) (hV : V n σ) (hP : va_P D vwCl (wA ax ar ad cO bo cL bx ba cI cJ cZ σ v) H) (hD : va_D A (wA ax ar ad cO bo cL bx ba cI cJ cZ σ v)) (hS : va_S A s.heap H locs) (hl : lv_has ls 8 [(4, .int (nI i)), (0, .ref b), (1, .ref ax), (2, .ref bx), (3, .ref bo)])
    (kk : ∀ (σ9 : St) (v9 : Int64) (H9 : Heap) (locs9 : List Loc) (ls9 : Array Slot), va_P D vwCl (wA ax ar ad cO bo cL bx ba cI cJ cZ σ9 v9) H9 → va_D A (wA ax ar ad cO bo cL bx ba cI cJ cZ σ9 v9) → va_S A s.heap H9 locs9 → V (n + 1) σ9 → lv_has ls9 8 [(4, .int (nI i)), (0, .ref b), (1, .ref ax), (2, .ref bx), (3, .ref bo)] → W p l e room_1 s m #[Value.ref b] below meth c H9 locs9 (cells + 4) (slots + 24) Q (F0 m 1278 ls9 [])) :
    W p l e room_1 s m #[Value.ref b] below meth c H locs cells slots Q (F0 m 651 ls []) := by
  obtain ⟨hx, hb, hml, hown, hts, hE, hK, hA, hX, hbl, hbA, hfl, hL, hlocks⟩ := C
  have hKw : va_K D vwCl (tL cO cL) s := hK.sub [0, 1] rfl
  have hKc : va_K D vwCl (cT cO) s := hK.sub [0] rfl
  have hKm : va_K D vwCl (mT cI cJ cZ) s := hK.sub [2, 3, 4] rfl
  have eS := Cq_w (Cq_20 (Cq.rf σ) 0) ax ar ad cO
  have hP : va_P D vwCl (wL ax ar ad cO bo cL ((uI σ 20 0), v) ++ mW bx ba cI cJ cZ σ) H := by show va_P D vwCl ((cW ax ar ad cO (uI σ 20 0) ++ oW bo cL v) ++ mW bx ba cI cJ cZ σ) H; rw [← eS]; exact hP
  have hD : va_D A (wL ax ar ad cO bo cL ((uI σ 20 0), v) ++ mW bx ba cI cJ cZ σ) := by show va_D A ((cW ax ar ad cO (uI σ 20 0) ++ oW bo cL v) ++ mW bx ba cI cJ cZ σ); rw [← eS]; exact hD
  refine lv_aload_n hx hb dL_law_651 rfl (lv_at hl 2 rfl) ?_
  refine s_arg (k := 1) hx hb hX hbl hbA hS hL (by omega) (lv_at hl 1 rfl) (lv_at hl 0 rfl) (by decide) dL_law_652 dL_law_653 dL_law_655 dL_law_656 dL_law_657 ?_
  refine lv_aload_n hx hb dL_law_658 rfl (lv_at hl 4 rfl) ?_
  refine f_calli (vx_runSW (As := [.ref ax, .int (xs (i + 1)), .ref bo]) (rest := []) ⟨hx, hb, hml, hown, hts⟩ (k_L_isOver l D ax ar ad cO bo cL H.size (uI σ 20 0) v (xs (i + 1)) hfl) (vx_cwSW 3 hts gL_law_L_isOver rfl rfl rfl (by decide +kernel) ⟨Nat.le_of_ble_eq_true rfl, Nat.le_of_ble_eq_true rfl⟩) (xPreS xE_ok hE hKw hA (P_l hP) (D_l hD) hS) rfl rfl hl.1 rfl (lv_room (Nat.le_of_ble_eq_true rfl)) dL_law_659 ⟨(by show cells + 1 ≤ 637657; omega), (by show slots + 6 ≤ 7183133; omega)⟩) hP hD hS hA (fun r u1 H locs h1 hP hD hS => ?_)
  refine lv_istore (lv' := [(5, .int r), (4, .int (nI i)), (0, .ref b), (1, .ref ax), (2, .ref bx), (3, .ref bo)]) hx hb dL_law_662 hl (by decide) rfl (fun ls hl => ?_)
  refine lv_aload_n hx hb dL_law_664 rfl (lv_at hl 4 rfl) ?_
  refine s_arg (k := 1) hx hb hX hbl hbA hS hL (by omega) (lv_at hl 2 rfl) (lv_at hl 1 rfl) (by decide) dL_law_665 dL_law_666 dL_law_668 dL_law_669 dL_law_670 ?_
  have hP := P_c hP
  have hD := D_c hD
  refine f_calli (va_runV (As := [.int (xs (i + 1))]) (rest := []) ⟨hx, hb, hml, hown, hts⟩ (k_X2_isOver l D bx ba cI cJ cZ H.size σ (xs (i + 1))) (cwV 1 hts gL_law_X2_isOver rfl rfl rfl (by decide +kernel) ⟨Nat.le_of_ble_eq_true rfl, Nat.le_of_ble_eq_true rfl⟩) (xPreV mE_ok trivial hKm hA (P_l hP) (D_l hD) hS (q0 := 0) (ci := 2) rfl rfl rfl) rfl rfl hl.1 rfl (lv_room (Nat.le_of_ble_eq_true rfl)) dL_law_671 ⟨(by show cells + 1 + 0 ≤ 637657; omega), (by show slots + 6 + 0 ≤ 7183133; omega)⟩) hP hD hS hA (fun r2 u2 H locs h2 hP hD hS => ?_)
  obtain ⟨g1, g2, g3, g4⟩ := g_isOver hV h1 h2
  refine lv_istore (lv' := [(6, .int r2), (5, .int r), (4, .int (nI i)), (0, .ref b), (1, .ref ax), (2, .ref bx), (3, .ref bo)]) hx hb dL_law_674 hl (by decide) rfl (fun ls hl => ?_)
  refine lv_aload_n hx hb dL_law_676 rfl (lv_at hl 5 rfl) ?_
  refine f_calli (va_runV (As := []) (rest := []) ⟨hx, hb, hml, hown, hts⟩ (k_X2_thrown l D bx ba cI cJ cZ H.size u2) (cwV 0 hts gL_law_X2_thrown rfl rfl rfl (by decide +kernel) ⟨Nat.le_of_ble_eq_true rfl, Nat.le_of_ble_eq_true rfl⟩) (xPreV mE_ok trivial hKm hA (P_l hP) (D_l hD) hS (q0 := 0) (ci := 2) rfl rfl rfl) rfl rfl hl.1 rfl (lv_room (Nat.le_of_ble_eq_true rfl)) dL_law_677 ⟨(by show cells + 1 + 0 + 0 ≤ 637657; omega), (by show slots + 6 + 0 + 0 ≤ 7183133; omega)⟩) hP hD hS hA (fun r3 u3 H locs h3 hP hD hS => ?_)
  obtain ⟨e3, eu3⟩ := h3
  rw [eu3] at hP hD
  have hP := P_c hP
  have hD := D_c hD
  have eW := Cq_w g1 ax ar ad cO
  have hP : va_P D vwCl (wA ax ar ad cO bo cL bx ba cI cJ cZ u2 u1.2) H := by show va_P D vwCl ((cW ax ar ad cO u2 ++ oW bo cL u1.2) ++ mW bx ba cI cJ cZ u2) H; rw [← eW]; exact hP
  have hD : va_D A (wA ax ar ad cO bo cL bx ba cI cJ cZ u2 u1.2) := by show va_D A ((cW ax ar ad cO u2 ++ oW bo cL u1.2) ++ mW bx ba cI cJ cZ u2); rw [← eW]; exact hD
  refine W.widen (k := cells + 4) (n := slots + 24) (by omega) (by omega) ?_
  refine lv_iload hx hb dL_law_680 (lv_at hl 1 rfl) ?_
  refine lv_icmp_eq (tgt := 687) hx hb dL_law_682 (by decide) (fun _ => ?_) (fun q => absurd (e3.trans g3.symm) q)
  refine lv_iload hx hb dL_law_687 (lv_at hl 1 rfl) ?_
  refine lv_if_ne (tgt := 711) hx hb dL_law_689 (by decide) (fun _ => ?_) (fun q0 => ?_)
  · refine lv_goto (tgt := 1278) hx hb dL_law_711 (by decide) ?_
    exact kk u2 u1.2 _ _ _ hP hD hS g2 (lv_sub hl [2, 3, 4, 5, 6] rfl)
  · refine lv_aload_n hx hb dL_law_692 rfl (lv_at hl 6 rfl) ?_
    refine lv_iconst (v := 0) hx hb dL_law_693 (by decide) ?_
    refine va_lald hx hb hK (P_r (P_l hP)) 0 1 rfl rfl (by unfold vp_in; decide) dL_law_694 ?_
    refine lv_iload hx hb dL_law_695 (lv_at hl 0 rfl) ?_
    refine s_l01 hx hb dL_law_697 dL_law_700 dL_law_701 dL_law_704 ?_
    refine x_eq (tgt := 711) hx hb dL_law_705 dL_law_706 (by decide) (fun _ => ?_) (fun q9 => absurd (g4 q0) q9)
    refine lv_goto (tgt := 1278) hx hb dL_law_711 (by decide) ?_
    exact kk u2 u1.2 _ _ _ hP hD hS g2 (lv_sub hl [2, 3, 4, 5, 6] rfl)

set_option maxHeartbeats 4000000 in
set_option maxRecDepth 100000 in
theorem c_sizeOf {p : Program} {l : Launch} {e : Env} {s : State} {m : MethodId} {below : List Frame} {meth : Method} {c : Code} {H : Heap} {locs : List Loc} {cells slots : Nat} {Q : State → Prop} {ls : Array Slot} {A : Nat → Prop} {D : va_G} {cO cL cI cJ cZ : ClassId} {b L : Nat} {xs : Nat → Int32} {ax ar : Nat} {ad : Nat → Nat} {bo bx : Nat} {ba : Nat → Nat} {n i : Nat} {σ : St} {v : Int64} (C : LC p l s m meth c A D cO cL cI cJ cZ b L xs) (hn9 : n < 2 ^ 30) (hi : i + 5 ≤ L) (hcl : cells + 4 ≤ 637657) (hsl : slots + 24 ≤ 7183133) (hV : V n σ) (hP : va_P D vwCl (wA ax ar ad cO bo cL bx ba cI cJ cZ σ v) H) (hD : va_D A (wA ax ar ad cO bo cL bx ba cI cJ cZ σ v)) (hS : va_S A s.heap H locs) (hl : lv_has ls 8 [(4, .int (nI i)), (0, .ref b), (1, .ref ax), (2, .ref bx), (3, .ref bo)])
    (kk : ∀ (σ9 : St) (v9 : Int64) (H9 : Heap) (locs9 : List Loc) (ls9 : Array Slot), va_P D vwCl (wA ax ar ad cO bo cL bx ba cI cJ cZ σ9 v9) H9 → va_D A (wA ax ar ad cO bo cL bx ba cI cJ cZ σ9 v9) → va_S A s.heap H9 locs9 → V (n + 1) σ9 → lv_has ls9 8 [(4, .int (nI i)), (0, .ref b), (1, .ref ax), (2, .ref bx), (3, .ref bo)] → W p l e room_1 s m #[Value.ref b] below meth c H9 locs9 (cells + 4) (slots + 24) Q (F0 m 1278 ls9 [])) :
    W p l e room_1 s m #[Value.ref b] below meth c H locs cells slots Q (F0 m 714 ls []) := by
  obtain ⟨hx, hb, hml, hown, hts, hE, hK, hA, hX, hbl, hbA, hfl, hL, hlocks⟩ := C
  have hKw : va_K D vwCl (tL cO cL) s := hK.sub [0, 1] rfl
  have hKc : va_K D vwCl (cT cO) s := hK.sub [0] rfl
  have hKm : va_K D vwCl (mT cI cJ cZ) s := hK.sub [2, 3, 4] rfl
  have eS := Cq_w (Cq_20 (Cq.rf σ) 0) ax ar ad cO
  have hP : va_P D vwCl (wL ax ar ad cO bo cL ((uI σ 20 0), v) ++ mW bx ba cI cJ cZ σ) H := by show va_P D vwCl ((cW ax ar ad cO (uI σ 20 0) ++ oW bo cL v) ++ mW bx ba cI cJ cZ σ) H; rw [← eS]; exact hP
  have hD : va_D A (wL ax ar ad cO bo cL ((uI σ 20 0), v) ++ mW bx ba cI cJ cZ σ) := by show va_D A ((cW ax ar ad cO (uI σ 20 0) ++ oW bo cL v) ++ mW bx ba cI cJ cZ σ); rw [← eS]; exact hD
  refine lv_aload_n hx hb dL_law_714 rfl (lv_at hl 2 rfl) ?_
  refine s_arg (k := 1) hx hb hX hbl hbA hS hL (by omega) (lv_at hl 1 rfl) (lv_at hl 0 rfl) (by decide) dL_law_715 dL_law_716 dL_law_718 dL_law_719 dL_law_720 ?_
  refine lv_aload_n hx hb dL_law_721 rfl (lv_at hl 4 rfl) ?_
  refine f_calli (vx_runSW (As := [.ref ax, .int (xs (i + 1)), .ref bo]) (rest := []) ⟨hx, hb, hml, hown, hts⟩ (k_L_sizeOf l D ax ar ad cO bo cL H.size (uI σ 20 0) v (xs (i + 1)) hfl) (vx_cwSW 3 hts gL_law_L_sizeOf rfl rfl rfl (by decide +kernel) ⟨Nat.le_of_ble_eq_true rfl, Nat.le_of_ble_eq_true rfl⟩) (xPreS xE_ok hE hKw hA (P_l hP) (D_l hD) hS) rfl rfl hl.1 rfl (lv_room (Nat.le_of_ble_eq_true rfl)) dL_law_722 ⟨(by show cells + 1 ≤ 637657; omega), (by show slots + 6 ≤ 7183133; omega)⟩) hP hD hS hA (fun r u1 H locs h1 hP hD hS => ?_)
  refine lv_istore (lv' := [(5, .int r), (4, .int (nI i)), (0, .ref b), (1, .ref ax), (2, .ref bx), (3, .ref bo)]) hx hb dL_law_725 hl (by decide) rfl (fun ls hl => ?_)
  refine lv_aload_n hx hb dL_law_727 rfl (lv_at hl 4 rfl) ?_
  refine s_arg (k := 1) hx hb hX hbl hbA hS hL (by omega) (lv_at hl 2 rfl) (lv_at hl 1 rfl) (by decide) dL_law_728 dL_law_729 dL_law_731 dL_law_732 dL_law_733 ?_
  have hP := P_c hP
  have hD := D_c hD
  refine f_calli (va_runV (As := [.int (xs (i + 1))]) (rest := []) ⟨hx, hb, hml, hown, hts⟩ (k_X2_sizeOf l D bx ba cI cJ cZ H.size σ (xs (i + 1))) (cwV 1 hts gL_law_X2_sizeOf rfl rfl rfl (by decide +kernel) ⟨Nat.le_of_ble_eq_true rfl, Nat.le_of_ble_eq_true rfl⟩) (xPreV mE_ok trivial hKm hA (P_l hP) (D_l hD) hS (q0 := 0) (ci := 2) rfl rfl rfl) rfl rfl hl.1 rfl (lv_room (Nat.le_of_ble_eq_true rfl)) dL_law_734 ⟨(by show cells + 1 + 0 ≤ 637657; omega), (by show slots + 6 + 0 ≤ 7183133; omega)⟩) hP hD hS hA (fun r2 u2 H locs h2 hP hD hS => ?_)
  obtain ⟨g1, g2, g3, g4⟩ := g_sizeOf hV h1 h2
  refine lv_istore (lv' := [(6, .int r2), (5, .int r), (4, .int (nI i)), (0, .ref b), (1, .ref ax), (2, .ref bx), (3, .ref bo)]) hx hb dL_law_737 hl (by decide) rfl (fun ls hl => ?_)
  refine lv_aload_n hx hb dL_law_739 rfl (lv_at hl 5 rfl) ?_
  refine f_calli (va_runV (As := []) (rest := []) ⟨hx, hb, hml, hown, hts⟩ (k_X2_thrown l D bx ba cI cJ cZ H.size u2) (cwV 0 hts gL_law_X2_thrown rfl rfl rfl (by decide +kernel) ⟨Nat.le_of_ble_eq_true rfl, Nat.le_of_ble_eq_true rfl⟩) (xPreV mE_ok trivial hKm hA (P_l hP) (D_l hD) hS (q0 := 0) (ci := 2) rfl rfl rfl) rfl rfl hl.1 rfl (lv_room (Nat.le_of_ble_eq_true rfl)) dL_law_740 ⟨(by show cells + 1 + 0 + 0 ≤ 637657; omega), (by show slots + 6 + 0 + 0 ≤ 7183133; omega)⟩) hP hD hS hA (fun r3 u3 H locs h3 hP hD hS => ?_)
  obtain ⟨e3, eu3⟩ := h3
  rw [eu3] at hP hD
  have hP := P_c hP
  have hD := D_c hD
  have eW := Cq_w g1 ax ar ad cO
  have hP : va_P D vwCl (wA ax ar ad cO bo cL bx ba cI cJ cZ u2 u1.2) H := by show va_P D vwCl ((cW ax ar ad cO u2 ++ oW bo cL u1.2) ++ mW bx ba cI cJ cZ u2) H; rw [← eW]; exact hP
  have hD : va_D A (wA ax ar ad cO bo cL bx ba cI cJ cZ u2 u1.2) := by show va_D A ((cW ax ar ad cO u2 ++ oW bo cL u1.2) ++ mW bx ba cI cJ cZ u2); rw [← eW]; exact hD
  refine W.widen (k := cells + 4) (n := slots + 24) (by omega) (by omega) ?_
  refine lv_iload hx hb dL_law_743 (lv_at hl 1 rfl) ?_
  refine lv_icmp_eq (tgt := 750) hx hb dL_law_745 (by decide) (fun _ => ?_) (fun q => absurd (e3.trans g3.symm) q)
  refine lv_iload hx hb dL_law_750 (lv_at hl 1 rfl) ?_
  refine lv_if_ne (tgt := 767) hx hb dL_law_752 (by decide) (fun _ => ?_) (fun q0 => ?_)
  · refine lv_goto (tgt := 1278) hx hb dL_law_767 (by decide) ?_
    exact kk u2 u1.2 _ _ _ hP hD hS g2 (lv_sub hl [2, 3, 4, 5, 6] rfl)
  · refine lv_aload_n hx hb dL_law_755 rfl (lv_at hl 6 rfl) ?_
    refine lv_iconst (v := 0) hx hb dL_law_756 (by decide) ?_
    refine va_lald hx hb hK (P_r (P_l hP)) 0 1 rfl rfl (by unfold vp_in; decide) dL_law_757 ?_
    refine lv_iload hx hb dL_law_758 (lv_at hl 0 rfl) ?_
    refine lv_i2l hx hb dL_law_760 rfl ?_
    refine x_eq (tgt := 767) hx hb dL_law_761 dL_law_762 (by decide) (fun _ => ?_) (fun q9 => absurd (g4 q0) q9)
    refine lv_goto (tgt := 1278) hx hb dL_law_767 (by decide) ?_
    exact kk u2 u1.2 _ _ _ hP hD hS g2 (lv_sub hl [2, 3, 4, 5, 6] rfl)
