set_option maxHeartbeats 4000000 in
set_option maxRecDepth 100000 in
theorem c_pin {p : Program} {l : Launch} {e : Env} {s : State} {m : MethodId} {below : List Frame} {meth : Method} {c : Code} {H : Heap} {locs : List Loc} {cells slots : Nat} {Q : State → Prop} {ls : Array Slot} {A : Nat → Prop} {D : va_G} {cO cI cJ : ClassId} {b L : Nat} {xs : Nat → Int32} {ax ar : Nat} {ad be : Nat → Nat} {n : Nat} {σ : St} {ρ : Nat → Int32} {γ : Nat} (C : LC p l s m meth c A D cO cI cJ b L xs) (hn : n < 100) (hI : SI n σ ρ γ) (y t : Nat) (hy : y < 2 ^ 27) (ht : t < 32) (hcl : cells + 4 ≤ room_1.cells) (hsl : slots + 24 ≤ room_1.slots) (hP : va_P D vwCl (lX be cI cJ (cW ax ar ad cO σ) (σ, ρ, γ)) H) (hD : va_D A (lX be cI cJ (cW ax ar ad cO σ) (σ, ρ, γ))) (hS : va_S A s.heap H locs) (hl : lv_has ls 20 [(0, .ref b), (1, .ref ax), (2, .ref (be 0)), (3, .ref (be 1)), (4, .ref (be 2)), (5, .ref (be 3)), (6, .ref (be 4)), (7, .ref (be 5)), (8, .ref (be 6)), (9, .ref (be 7)), (10, .ref (be 8)), (12, .int (nI n)), (15, .int (nI y)), (16, .int (nI t))])
    (kk : ∀ (σ9 : St) (ρ9 : Nat → Int32) (γ9 : Nat) (H9 : Heap) (locs9 : List Loc) (ls9 : Array Slot), SI (n + 1) σ9 ρ9 γ9 → va_P D vwCl (lX be cI cJ (cW ax ar ad cO σ9) (σ9, ρ9, γ9)) H9 → va_D A (lX be cI cJ (cW ax ar ad cO σ9) (σ9, ρ9, γ9)) → va_S A s.heap H9 locs9 → lv_has ls9 20 [(0, .ref b), (1, .ref ax), (2, .ref (be 0)), (3, .ref (be 1)), (4, .ref (be 2)), (5, .ref (be 3)), (6, .ref (be 4)), (7, .ref (be 5)), (8, .ref (be 6)), (9, .ref (be 7)), (10, .ref (be 8)), (11, .int 1), (12, .int (nI n)), (15, .int (nI y))] → W p l e room_1 s m #[Value.ref b] below meth c H9 locs9 (cells + 4) (slots + 24) Q (F0 m 850 ls9 [])) :
    W p l e room_1 s m #[Value.ref b] below meth c H locs cells slots Q (F0 m 409 ls []) := by
  obtain ⟨hx, hb, hml, hown, hts, hE, hK, hA, hX, hbl, hbA, hfl, hL, hlocks⟩ := C
  have hKc : va_K D vwCl (cT cO) s := hK.sub [2] rfl
  obtain ⟨hV9, ⟨hT1, hT8⟩, L9, hR9, hS9⟩ := id hI
  have hn30 : n < 2 ^ 30 := by omega
  have B463 : ∀ (t1 : Nat) (b8 : Bool) (H : Heap) (locs : List Loc) (ls : Array Slot), t1 < 32 → va_P D vwCl (lX be cI cJ (cW ax ar ad cO σ) (σ, ρ, γ)) H → va_D A (lX be cI cJ (cW ax ar ad cO σ) (σ, ρ, γ)) → va_S A s.heap H locs → lv_has ls 20 [(0, .ref b), (1, .ref ax), (2, .ref (be 0)), (3, .ref (be 1)), (4, .ref (be 2)), (5, .ref (be 3)), (6, .ref (be 4)), (7, .ref (be 5)), (8, .ref (be 6)), (9, .ref (be 7)), (10, .ref (be 8)), (12, .int (nI n)), (15, .int (nI y)), (16, .int (nI t1))] → W p l e room_1 s m #[Value.ref b] below meth c H locs (cells) (slots) Q (F0 m 463 ls [.int (bI b8)]) := by
    intro t1 b8 H locs ls ht1 hP hD hS hl
    refine lv_istore (lv' := [(17, .int (bI b8)), (0, .ref b), (1, .ref ax), (2, .ref (be 0)), (3, .ref (be 1)), (4, .ref (be 2)), (5, .ref (be 3)), (6, .ref (be 4)), (7, .ref (be 5)), (8, .ref (be 6)), (9, .ref (be 7)), (10, .ref (be 8)), (12, .int (nI n)), (15, .int (nI y)), (16, .int (nI t1))]) hx hb dL_law_463 hl (by decide) rfl (fun ls hl => ?_)
    refine lv_aload_n hx hb dL_law_465 rfl (lv_at hl 3 rfl) ?_
    refine lv_iload hx hb dL_law_466 (lv_at hl 14 rfl) ?_
    refine l_ld0 hx hb hK hP ht1 dL_law_468 ?_
    refine lv_if_ne (tgt := 477) hx hb dL_law_469 (by decide) (fun c_1 => ?_) (fun c_1 => ?_)
    · have hB : gB σ 1 t1 = true := by
        cases h9 : gB σ 1 t1 with
        | true => rfl
        | false => exact absurd ((uF_z hV9.1 ht1).mpr h9) c_1
      refine lv_aload hx hb dL_law_477 (lv_at hl 6 rfl) ?_
      refine lv_iload hx hb dL_law_479 (lv_at hl 14 rfl) ?_
      refine l_ld3 hx hb hK hP ht1 dL_law_481 ?_
      refine lv_istore (lv' := [(18, .int (bI (gB σ 2 t1))), (17, .int (bI b8)), (0, .ref b), (1, .ref ax), (2, .ref (be 0)), (3, .ref (be 1)), (4, .ref (be 2)), (5, .ref (be 3)), (6, .ref (be 4)), (7, .ref (be 5)), (8, .ref (be 6)), (9, .ref (be 7)), (10, .ref (be 8)), (12, .int (nI n)), (15, .int (nI y)), (16, .int (nI t1))]) hx hb dL_law_482 hl (by decide) rfl (fun ls hl => ?_)
      refine lv_aload_n hx hb dL_law_484 rfl (lv_at hl 3 rfl) ?_
      refine lv_iconst (v := 0) hx hb dL_law_485 (by decide) ?_
      refine lv_iload hx hb dL_law_486 (lv_at hl 15 rfl) ?_
      refine lv_iload hx hb dL_law_488 (lv_at hl 1 rfl) ?_
      have hP := P_c (a := lW be cI cJ (σ, ρ, γ)) (b := cW ax ar ad cO σ) hP
      have hD := D_c (a := lW be cI cJ (σ, ρ, γ)) (b := cW ax ar ad cO σ) hD
      refine f_calli (vx_runSW (As := [.ref ax, .int 0, .int (nI t1), .int (bI b8)]) (rest := []) ⟨hx, hb, hml, hown, hts⟩ (k_L_told0 l D ax ar ad cO H.size σ ht1 b8 hfl) (vx_cwSW 4 hts gL_law_L_told rfl rfl rfl (by decide +kernel) ⟨Nat.le_of_ble_eq_true rfl, Nat.le_of_ble_eq_true rfl⟩) (xPreS xE_ok hE hKc hA (P_l hP) (D_l hD) hS) rfl rfl hl.1 rfl (lv_room (Nat.le_of_ble_eq_true rfl)) dL_law_490 ⟨(by show cells + 2 ≤ room_1.cells; omega), (by show slots + 12 ≤ room_1.slots; omega)⟩) hP hD hS hA (fun r u H locs hp hP hD hS => ?_)
      obtain ⟨rfl, hu9⟩ := hp.1 hB
      rw [hu9] at hP hD
      have hP : va_P D vwCl (lX be cI cJ (cW ax ar ad cO (uB σ 2 t1 b8)) (σ, ρ, γ)) H := P_c hP
      have hD : va_D A (lX be cI cJ (cW ax ar ad cO (uB σ 2 t1 b8)) (σ, ρ, γ)) := D_c hD
      refine lv_iload hx hb dL_law_493 (lv_at hl 0 rfl) ?_
      refine lv_icmp_ne (tgt := 502) hx hb dL_law_495 (by decide) (fun c9 => absurd (rfl) c9) (fun _ => ?_)
      refine lv_iconst (v := 1) hx hb dL_law_498 (by decide) ?_
      refine lv_goto (tgt := 503) hx hb dL_law_499 (by decide) ?_
      refine lv_istore (lv' := [(11, .int 1), (18, .int (bI (gB σ 2 t1))), (17, .int (bI b8)), (0, .ref b), (1, .ref ax), (2, .ref (be 0)), (3, .ref (be 1)), (4, .ref (be 2)), (5, .ref (be 3)), (6, .ref (be 4)), (7, .ref (be 5)), (8, .ref (be 6)), (9, .ref (be 7)), (10, .ref (be 8)), (12, .int (nI n)), (15, .int (nI y)), (16, .int (nI t1))]) hx hb dL_law_503 hl (by decide) rfl (fun ls hl => ?_)
      refine lv_iload hx hb dL_law_505 (lv_at hl 1 rfl) ?_
      refine lv_if_lt (tgt := 549) hx hb dL_law_507 (by decide) (fun c9 => absurd c9 (bI_nlt _)) (fun _ => ?_)
      refine lv_iload hx hb dL_law_510 (lv_at hl 2 rfl) ?_
      refine lv_iload hx hb dL_law_512 (lv_at hl 1 rfl) ?_
      refine lv_icmp_eq (tgt := 549) hx hb dL_law_514 (by decide) (fun c_2 => ?_) (fun c_2 => ?_)
      · refine lv_goto (tgt := 850) hx hb dL_law_549 (by decide) ?_
        rw [uB_self (bI_inj c_2).symm] at hP hD
        refine W.widen (k := cells + 4) (n := slots + 24) (by omega) (by omega) ?_
        exact kk σ ρ γ H locs ls (si_up hI) hP hD hS (lv_sub hl [3, 4, 5, 6, 7, 8, 9, 10, 11, 12, 13, 0, 14, 15] rfl)
      · refine lv_aload hx hb dL_law_517 (lv_at hl 8 rfl) ?_
        refine lv_iload hx hb dL_law_519 (lv_at hl 16 rfl) ?_
        refine lv_iload hx hb dL_law_521 (lv_at hl 2 rfl) ?_
        refine l_st3 (b9 := b8) hx hb hK hP hD hS ht1 dL_law_523 (fun H locs hP hD hS => ?_)
        refine lv_aload hx hb dL_law_524 (lv_at hl 10 rfl) ?_
        refine lv_aload hx hb dL_law_526 (lv_at hl 11 rfl) ?_
        refine lv_iload hx hb dL_law_528 (lv_at hl 16 rfl) ?_
        refine x_callv (va_runS (As := [.ref (be 5), .ref (be 6), .int (nI t1)]) (rest := []) ⟨hx, hb, hml, hown, hts⟩ (k_L_takeOut l D be cI cJ (cW ax ar ad cO (uB σ 2 t1 b8)) (cT cO) H.size (uB σ 2 t1 b8) ρ γ ht1 L9 hR9 (sr_len hS9) (fun x hx => sr_lt hS9 hx)) (va_cwS 3 hts gL_law_L_takeOut rfl rfl rfl (by decide +kernel) ⟨Nat.le_of_ble_eq_true rfl, Nat.le_of_ble_eq_true rfl⟩) (xPreS mE_ok trivial hK hA hP hD hS) rfl rfl hl.1 rfl (lv_room (Nat.le_of_ble_eq_true rfl)) dL_law_530 ⟨(by show cells + 2 + 0 ≤ room_1.cells; omega), (by show slots + 12 + 0 ≤ room_1.slots; omega)⟩) hD hS hA (fun u H locs hp hP hD hS => ?_)
        obtain ⟨σ3, ρ3, γ3⟩ := u
        obtain ⟨hu3, hR3⟩ := hp
        have hu3 : σ3 = uB σ 2 t1 b8 := hu3
        rw [hu3] at hP hD
        have hR3 : Row ρ3 γ3 (wo t1 L9) := hR3
        refine lv_iload hx hb dL_law_533 (lv_at hl 2 rfl) ?_
        refine x_ifne (tgt := 549) hx hb dL_law_535 (by decide) (fun c_4 => ?_) (fun c_4 => ?_)
        · refine lv_goto (tgt := 850) hx hb dL_law_549 (by decide) ?_
          refine W.widen (k := cells + 4) (n := slots + 24) (by omega) (by omega) ?_
          exact kk (uB σ 2 t1 b8) ρ3 γ3 H locs ls (si_pin hI ⟨_, hR3, by rw [c_4]; exact pin_t hS9⟩) hP hD hS (lv_sub hl [3, 4, 5, 6, 7, 8, 9, 10, 11, 12, 13, 0, 14, 15] rfl)
        · have h8 := c_4
          subst h8
          refine lv_aload hx hb dL_law_538 (lv_at hl 10 rfl) ?_
          refine lv_aload hx hb dL_law_540 (lv_at hl 11 rfl) ?_
          refine lv_aload hx hb dL_law_542 (lv_at hl 12 rfl) ?_
          refine lv_iload hx hb dL_law_544 (lv_at hl 16 rfl) ?_
          refine x_callv (va_runS (As := [.ref (be 5), .ref (be 6), .ref (be 7), .int (nI t1)]) (rest := []) ⟨hx, hb, hml, hown, hts⟩ (k_L_putIn l D be cI cJ (cW ax ar ad cO (uB σ 2 t1 false)) (cT cO) H.size (uB σ 2 t1 false) ρ3 γ3 ht1 (wo t1 L9) (fun x => inO σ x && decide (x ≠ t1)) hR3 (pin_w hS9) (pin_st hV9 ht1 hB hS9)) (va_cwS 4 hts gL_law_L_putIn rfl rfl rfl (by decide +kernel) ⟨Nat.le_of_ble_eq_true rfl, Nat.le_of_ble_eq_true rfl⟩) (xPreS mE_ok trivial hK hA hP hD hS) rfl rfl hl.1 rfl (lv_room (Nat.le_of_ble_eq_true rfl)) dL_law_546 ⟨(by show cells + 2 + 0 + 0 ≤ room_1.cells; omega), (by show slots + 12 + 0 + 0 ≤ room_1.slots; omega)⟩) hD hS hA (fun u H locs hp hP hD hS => ?_)
          obtain ⟨σ5, ρ5, γ5⟩ := u
          obtain ⟨hu5, L5, hR5, hQ5⟩ := hp
          have hu5 : σ5 = uB σ 2 t1 false := hu5
          rw [hu5] at hP hD
          have hR5 : Row ρ5 γ5 L5 := hR5
          refine lv_goto (tgt := 850) hx hb dL_law_549 (by decide) ?_
          refine W.widen (k := cells + 4) (n := slots + 24) (by omega) (by omega) ?_
          exact kk (uB σ 2 t1 false) ρ5 γ5 H locs ls (si_pin hI ⟨_, hR5, pin_f hB hQ5⟩) hP hD hS (lv_sub hl [3, 4, 5, 6, 7, 8, 9, 10, 11, 12, 13, 0, 14, 15] rfl)
    · have hB : gB σ 1 t1 = false := (uF_z hV9.1 ht1).mp c_1
      refine lv_bipush (v := (-13)) hx hb dL_law_472 (by decide) ?_
      refine lv_goto (tgt := 482) hx hb dL_law_474 (by decide) ?_
      refine lv_istore (lv' := [(18, .int (-13)), (17, .int (bI b8)), (0, .ref b), (1, .ref ax), (2, .ref (be 0)), (3, .ref (be 1)), (4, .ref (be 2)), (5, .ref (be 3)), (6, .ref (be 4)), (7, .ref (be 5)), (8, .ref (be 6)), (9, .ref (be 7)), (10, .ref (be 8)), (12, .int (nI n)), (15, .int (nI y)), (16, .int (nI t1))]) hx hb dL_law_482 hl (by decide) rfl (fun ls hl => ?_)
      refine lv_aload_n hx hb dL_law_484 rfl (lv_at hl 3 rfl) ?_
      refine lv_iconst (v := 0) hx hb dL_law_485 (by decide) ?_
      refine lv_iload hx hb dL_law_486 (lv_at hl 15 rfl) ?_
      refine lv_iload hx hb dL_law_488 (lv_at hl 1 rfl) ?_
      have hP := P_c (a := lW be cI cJ (σ, ρ, γ)) (b := cW ax ar ad cO σ) hP
      have hD := D_c (a := lW be cI cJ (σ, ρ, γ)) (b := cW ax ar ad cO σ) hD
      refine f_calli (vx_runSW (As := [.ref ax, .int 0, .int (nI t1), .int (bI b8)]) (rest := []) ⟨hx, hb, hml, hown, hts⟩ (k_L_told0 l D ax ar ad cO H.size σ ht1 b8 hfl) (vx_cwSW 4 hts gL_law_L_told rfl rfl rfl (by decide +kernel) ⟨Nat.le_of_ble_eq_true rfl, Nat.le_of_ble_eq_true rfl⟩) (xPreS xE_ok hE hKc hA (P_l hP) (D_l hD) hS) rfl rfl hl.1 rfl (lv_room (Nat.le_of_ble_eq_true rfl)) dL_law_490 ⟨(by show cells + 2 ≤ room_1.cells; omega), (by show slots + 12 ≤ room_1.slots; omega)⟩) hP hD hS hA (fun r u H locs hp hP hD hS => ?_)
      obtain ⟨rfl, hu9⟩ := hp.2 hB
      rw [hu9] at hP hD
      have hP : va_P D vwCl (lX be cI cJ (cW ax ar ad cO σ) (σ, ρ, γ)) H := P_c hP
      have hD : va_D A (lX be cI cJ (cW ax ar ad cO σ) (σ, ρ, γ)) := D_c hD
      refine lv_iload hx hb dL_law_493 (lv_at hl 0 rfl) ?_
      refine lv_icmp_ne (tgt := 502) hx hb dL_law_495 (by decide) (fun c_6 => absurd (by decide) c_6) (fun _ => ?_)
      refine lv_iconst (v := 1) hx hb dL_law_498 (by decide) ?_
      refine lv_goto (tgt := 503) hx hb dL_law_499 (by decide) ?_
      refine lv_istore (lv' := [(11, .int 1), (18, .int (-13)), (17, .int (bI b8)), (0, .ref b), (1, .ref ax), (2, .ref (be 0)), (3, .ref (be 1)), (4, .ref (be 2)), (5, .ref (be 3)), (6, .ref (be 4)), (7, .ref (be 5)), (8, .ref (be 6)), (9, .ref (be 7)), (10, .ref (be 8)), (12, .int (nI n)), (15, .int (nI y)), (16, .int (nI t1))]) hx hb dL_law_503 hl (by decide) rfl (fun ls hl => ?_)
      refine lv_iload hx hb dL_law_505 (lv_at hl 1 rfl) ?_
      refine lv_if_lt (tgt := 549) hx hb dL_law_507 (by decide) (fun _ => ?_) (fun c_7 => absurd (by decide) c_7)
      refine lv_goto (tgt := 850) hx hb dL_law_549 (by decide) ?_
      refine W.widen (k := cells + 4) (n := slots + 24) (by omega) (by omega) ?_
      exact kk σ ρ γ H locs ls (si_up hI) hP hD hS (lv_sub hl [3, 4, 5, 6, 7, 8, 9, 10, 11, 12, 13, 0, 14, 15] rfl)
  have B448 : ∀ (t1 : Nat) (H : Heap) (locs : List Loc) (ls : Array Slot), t1 < 32 → va_P D vwCl (lX be cI cJ (cW ax ar ad cO σ) (σ, ρ, γ)) H → va_D A (lX be cI cJ (cW ax ar ad cO σ) (σ, ρ, γ)) → va_S A s.heap H locs → lv_has ls 20 [(0, .ref b), (1, .ref ax), (2, .ref (be 0)), (3, .ref (be 1)), (4, .ref (be 2)), (5, .ref (be 3)), (6, .ref (be 4)), (7, .ref (be 5)), (8, .ref (be 6)), (9, .ref (be 7)), (10, .ref (be 8)), (12, .int (nI n)), (15, .int (nI y)), (16, .int (nI t1))] → W p l e room_1 s m #[Value.ref b] below meth c H locs (cells) (slots) Q (F0 m 448 ls []) := by
    intro t1 H locs ls ht1 hP hD hS hl
    refine lv_iload hx hb dL_law_448 (lv_at hl 12 rfl) ?_
    refine lv_bipush (v := 96) hx hb dL_law_450 (by decide) ?_
    refine lv_idiv hx hb dL_law_452 (by decide) ?_
    refine W.eq (g2 := F0 m 453 ls [.int (nI (y / 96))]) (by rw [show nI y / 96 = nI (y / 96) from pk_div (d := 96) (by omega) (by decide) (by decide)]) ?_
    refine lv_iconst (v := 3) hx hb dL_law_453 (by decide) ?_
    refine lv_irem hx hb dL_law_454 (by decide) ?_
    refine W.eq (g2 := F0 m 455 ls [.int (nI ((y / 96) % 3))]) (by rw [show nI (y / 96) - nI (y / 96) / 3 * 3 = nI ((y / 96) % 3) from pk_rem (d := 3) (by omega) (by decide) (by decide)]) ?_
    refine lv_if_ne (tgt := 462) hx hb dL_law_455 (by decide) (fun c_8 => ?_) (fun c_8 => ?_)
    · refine lv_iconst (v := 1) hx hb dL_law_462 (by decide) ?_
      refine W.eq (g2 := F0 m 463 ls [.int (bI true)]) rfl ?_
      exact B463 t1 true H locs ls ht1 hP hD hS (lv_sub hl [0, 1, 2, 3, 4, 5, 6, 7, 8, 9, 10, 11, 12, 13] rfl)
    · refine lv_iconst (v := 0) hx hb dL_law_458 (by decide) ?_
      refine lv_goto (tgt := 463) hx hb dL_law_459 (by decide) ?_
      refine W.eq (g2 := F0 m 463 ls [.int (bI false)]) rfl ?_
      exact B463 t1 false H locs ls ht1 hP hD hS (lv_sub hl [0, 1, 2, 3, 4, 5, 6, 7, 8, 9, 10, 11, 12, 13] rfl)
  refine lv_iconst (v := 0) hx hb dL_law_409 (by decide) ?_
  refine lv_istore (lv' := [(17, .int 0), (0, .ref b), (1, .ref ax), (2, .ref (be 0)), (3, .ref (be 1)), (4, .ref (be 2)), (5, .ref (be 3)), (6, .ref (be 4)), (7, .ref (be 5)), (8, .ref (be 6)), (9, .ref (be 7)), (10, .ref (be 8)), (12, .int (nI n)), (15, .int (nI y)), (16, .int (nI t))]) hx hb dL_law_410 hl (by decide) rfl (fun ls hl => ?_)
  have loop : ∀ (n2 : Nat) (j9 t1 : Nat) (ls : Array Slot) (H : Heap) (locs : List Loc), 32 - j9 < n2 → j9 ≤ 32 → t1 < 32 → va_P D vwCl (lX be cI cJ (cW ax ar ad cO σ) (σ, ρ, γ)) H → va_D A (lX be cI cJ (cW ax ar ad cO σ) (σ, ρ, γ)) → va_S A s.heap H locs → lv_has ls 20 [(0, .ref b), (1, .ref ax), (2, .ref (be 0)), (3, .ref (be 1)), (4, .ref (be 2)), (5, .ref (be 3)), (6, .ref (be 4)), (7, .ref (be 5)), (8, .ref (be 6)), (9, .ref (be 7)), (10, .ref (be 8)), (12, .int (nI n)), (15, .int (nI y)), (16, .int (nI t1)), (17, .int (nI j9))] → W p l e room_1 s m #[Value.ref b] below meth c H locs (cells) (slots) Q (F0 m 412 ls []) := by
    intro n2
    induction n2 with
    | zero =>
      intro j9 t1 ls H locs h9
      exact absurd h9 (Nat.not_lt_zero _)
    | succ n2 ih2 =>
      intro j9 t1 ls H locs hn2 hj ht1 hP hD hS hl
      refine lv_iload hx hb dL_law_412 (lv_at hl 14 rfl) ?_
      refine lv_bipush (v := 32) hx hb dL_law_414 (by decide) ?_
      refine x_icmp_ge (tgt := 448) hx hb dL_law_416 (by decide) (fun c_9 => ?_) (fun c_9 => ?_)
      · exact B448 t1 H locs ls ht1 hP hD hS (lv_sub hl [0, 1, 2, 3, 4, 5, 6, 7, 8, 9, 10, 11, 12, 13] rfl)
      · refine lv_iload hx hb dL_law_419 (lv_at hl 12 rfl) ?_
        refine lv_iconst (v := 4) hx hb dL_law_421 (by decide) ?_
        refine lv_irem hx hb dL_law_422 (by decide) ?_
        refine W.eq (g2 := F0 m 423 ls [.int (nI (y % 4))]) (by rw [show nI y - nI y / 4 * 4 = nI (y % 4) from pk_rem (d := 4) (by omega) (by decide) (by decide)]) ?_
        refine x_if_le (tgt := 448) hx hb dL_law_423 (by decide) (fun c_10 => ?_) (fun c_10 => ?_)
        · exact B448 t1 H locs ls ht1 hP hD hS (lv_sub hl [0, 1, 2, 3, 4, 5, 6, 7, 8, 9, 10, 11, 12, 13] rfl)
        · refine lv_aload_n hx hb dL_law_426 rfl (lv_at hl 2 rfl) ?_
          refine lv_iload hx hb dL_law_427 (lv_at hl 13 rfl) ?_
          refine l_ld0 hx hb hK hP ht1 dL_law_429 ?_
          refine lv_if_ne (tgt := 448) hx hb dL_law_430 (by decide) (fun c_11 => ?_) (fun c_11 => ?_)
          · exact B448 t1 H locs ls ht1 hP hD hS (lv_sub hl [0, 1, 2, 3, 4, 5, 6, 7, 8, 9, 10, 11, 12, 13] rfl)
          · refine lv_iload hx hb dL_law_433 (lv_at hl 13 rfl) ?_
            refine lv_iconst (v := 1) hx hb dL_law_435 (by decide) ?_
            refine lv_iadd hx hb dL_law_436 ?_
            refine W.eq (g2 := F0 m 437 ls [.int (nI (t1 + 1))]) (by rw [nI_succ]) ?_
            refine lv_bipush (v := 32) hx hb dL_law_437 (by decide) ?_
            refine lv_irem hx hb dL_law_439 (by decide) ?_
            refine W.eq (g2 := F0 m 440 ls [.int (nI ((t1 + 1) % 32))]) (by rw [show nI (t1 + 1) - nI (t1 + 1) / 32 * 32 = nI ((t1 + 1) % 32) from pk_rem (d := 32) (by omega) (by decide) (by decide)]) ?_
            refine lv_istore (lv' := [(16, .int (nI ((t1 + 1) % 32))), (0, .ref b), (1, .ref ax), (2, .ref (be 0)), (3, .ref (be 1)), (4, .ref (be 2)), (5, .ref (be 3)), (6, .ref (be 4)), (7, .ref (be 5)), (8, .ref (be 6)), (9, .ref (be 7)), (10, .ref (be 8)), (12, .int (nI n)), (15, .int (nI y)), (17, .int (nI j9))]) hx hb dL_law_440 hl (by decide) rfl (fun ls hl => ?_)
            refine lv_iinc (v := (nI j9) + 1) (lv' := [(17, .int ((nI j9) + 1)), (16, .int (nI ((t1 + 1) % 32))), (0, .ref b), (1, .ref ax), (2, .ref (be 0)), (3, .ref (be 1)), (4, .ref (be 2)), (5, .ref (be 3)), (6, .ref (be 4)), (7, .ref (be 5)), (8, .ref (be 6)), (9, .ref (be 7)), (10, .ref (be 8)), (12, .int (nI n)), (15, .int (nI y))]) hx hb dL_law_442 hl (k := 14) rfl rfl (by decide) rfl (fun ls hl => ?_)
            refine lv_goto (tgt := 412) hx hb dL_law_445 (by decide) ?_
            have hj2 : j9 < 32 := by
              rcases Nat.lt_or_ge j9 32 with q | q
              · exact q
              · exact (nI_lt32 hj).mp c_9
            exact ih2 (j9 + 1) ((t1 + 1) % 32) ls H locs (by omega) (by omega) (by omega) hP hD hS (by rw [nI_succ]; exact lv_sub hl [2, 3, 4, 5, 6, 7, 8, 9, 10, 11, 12, 13, 14, 1, 0] rfl)
  exact loop 33 0 t ls H locs (by omega) (by omega) ht hP hD hS (lv_sub hl [1, 2, 3, 4, 5, 6, 7, 8, 9, 10, 11, 12, 13, 14, 0] rfl)
set_option maxHeartbeats 4000000 in
set_option maxRecDepth 100000 in
theorem c_drop {p : Program} {l : Launch} {e : Env} {s : State} {m : MethodId} {below : List Frame} {meth : Method} {c : Code} {H : Heap} {locs : List Loc} {cells slots : Nat} {Q : State → Prop} {ls : Array Slot} {A : Nat → Prop} {D : va_G} {cO cI cJ : ClassId} {b L : Nat} {xs : Nat → Int32} {ax ar : Nat} {ad be : Nat → Nat} {n : Nat} {σ : St} {ρ : Nat → Int32} {γ : Nat} (C : LC p l s m meth c A D cO cI cJ b L xs) (hn : n < 100) (hI : SI n σ ρ γ) (y t : Nat) (hy : y < 2 ^ 27) (ht : t < 32) (hcl : cells + 4 ≤ room_1.cells) (hsl : slots + 24 ≤ room_1.slots) (hP : va_P D vwCl (lX be cI cJ (cW ax ar ad cO σ) (σ, ρ, γ)) H) (hD : va_D A (lX be cI cJ (cW ax ar ad cO σ) (σ, ρ, γ))) (hS : va_S A s.heap H locs) (hl : lv_has ls 20 [(0, .ref b), (1, .ref ax), (2, .ref (be 0)), (3, .ref (be 1)), (4, .ref (be 2)), (5, .ref (be 3)), (6, .ref (be 4)), (7, .ref (be 5)), (8, .ref (be 6)), (9, .ref (be 7)), (10, .ref (be 8)), (12, .int (nI n)), (15, .int (nI y)), (16, .int (nI t))])
    (kk : ∀ (σ9 : St) (ρ9 : Nat → Int32) (γ9 : Nat) (H9 : Heap) (locs9 : List Loc) (ls9 : Array Slot), SI (n + 1) σ9 ρ9 γ9 → va_P D vwCl (lX be cI cJ (cW ax ar ad cO σ9) (σ9, ρ9, γ9)) H9 → va_D A (lX be cI cJ (cW ax ar ad cO σ9) (σ9, ρ9, γ9)) → va_S A s.heap H9 locs9 → lv_has ls9 20 [(0, .ref b), (1, .ref ax), (2, .ref (be 0)), (3, .ref (be 1)), (4, .ref (be 2)), (5, .ref (be 3)), (6, .ref (be 4)), (7, .ref (be 5)), (8, .ref (be 6)), (9, .ref (be 7)), (10, .ref (be 8)), (11, .int 1), (12, .int (nI n)), (15, .int (nI y))] → W p l e room_1 s m #[Value.ref b] below meth c H9 locs9 (cells + 4) (slots + 24) Q (F0 m 850 ls9 [])) :
    W p l e room_1 s m #[Value.ref b] below meth c H locs cells slots Q (F0 m 559 ls []) := by
  obtain ⟨hx, hb, hml, hown, hts, hE, hK, hA, hX, hbl, hbA, hfl, hL, hlocks⟩ := C
  have hKc : va_K D vwCl (cT cO) s := hK.sub [2] rfl
  obtain ⟨hV9, ⟨hT1, hT8⟩, L9, hR9, hS9⟩ := id hI
  have hn30 : n < 2 ^ 30 := by omega
  refine lv_aload_n hx hb dL_law_559 rfl (lv_at hl 2 rfl) ?_
  refine lv_iload hx hb dL_law_560 (lv_at hl 13 rfl) ?_
  refine l_ld0 hx hb hK hP ht dL_law_562 ?_
  refine lv_if_ne (tgt := 571) hx hb dL_law_563 (by decide) (fun c_1 => ?_) (fun c_1 => ?_)
  · have hB : gB σ 1 t = true := by
      cases h9 : gB σ 1 t with
      | true => rfl
      | false => exact absurd ((uF_z hV9.1 ht).mpr h9) c_1
    refine lv_aload_n hx hb dL_law_571 rfl (lv_at hl 2 rfl) ?_
    refine lv_iload hx hb dL_law_572 (lv_at hl 13 rfl) ?_
    refine l_ld0 hx hb hK hP ht dL_law_574 ?_
    refine lv_istore (lv' := [(17, .int (uF σ t)), (0, .ref b), (1, .ref ax), (2, .ref (be 0)), (3, .ref (be 1)), (4, .ref (be 2)), (5, .ref (be 3)), (6, .ref (be 4)), (7, .ref (be 5)), (8, .ref (be 6)), (9, .ref (be 7)), (10, .ref (be 8)), (12, .int (nI n)), (15, .int (nI y)), (16, .int (nI t))]) hx hb dL_law_575 hl (by decide) rfl (fun ls hl => ?_)
    refine lv_aload_n hx hb dL_law_577 rfl (lv_at hl 2 rfl) ?_
    refine lv_iconst (v := 1) hx hb dL_law_578 (by decide) ?_
    refine lv_iload hx hb dL_law_579 (lv_at hl 14 rfl) ?_
    refine lv_iconst (v := 0) hx hb dL_law_581 (by decide) ?_
    have hP := P_c (a := lW be cI cJ (σ, ρ, γ)) (b := cW ax ar ad cO σ) hP
    have hD := D_c (a := lW be cI cJ (σ, ρ, γ)) (b := cW ax ar ad cO σ) hD
    refine f_calli (vx_runSW (As := [.ref ax, .int 1, .int (nI t), .int 0]) (rest := []) ⟨hx, hb, hml, hown, hts⟩ (k_L_told1 l D ax ar ad cO H.size σ ht 0 hfl) (vx_cwSW 4 hts gL_law_L_told rfl rfl rfl (by decide +kernel) ⟨Nat.le_of_ble_eq_true rfl, Nat.le_of_ble_eq_true rfl⟩) (xPreS xE_ok hE hKc hA (P_l hP) (D_l hD) hS) rfl rfl hl.1 rfl (lv_room (Nat.le_of_ble_eq_true rfl)) dL_law_582 ⟨(by show cells + 2 ≤ room_1.cells; omega), (by show slots + 12 ≤ room_1.slots; omega)⟩) hP hD hS hA (fun r u H locs hp hP hD hS => ?_)
    obtain ⟨rfl, hu9⟩ := hp.1 hB
    rw [hu9] at hP hD
    have hP : va_P D vwCl (lX be cI cJ (cW ax ar ad cO (uB σ 1 t false)) (σ, ρ, γ)) H := P_c hP
    have hD : va_D A (lX be cI cJ (cW ax ar ad cO (uB σ 1 t false)) (σ, ρ, γ)) := D_c hD
    refine lv_iload hx hb dL_law_585 (lv_at hl 0 rfl) ?_
    refine lv_icmp_ne (tgt := 594) hx hb dL_law_587 (by decide) (fun c9 => absurd (by unfold uF; rw [if_pos hB]) c9) (fun _ => ?_)
    refine lv_iconst (v := 1) hx hb dL_law_590 (by decide) ?_
    refine lv_goto (tgt := 595) hx hb dL_law_591 (by decide) ?_
    refine lv_istore (lv' := [(11, .int 1), (17, .int (uF σ t)), (0, .ref b), (1, .ref ax), (2, .ref (be 0)), (3, .ref (be 1)), (4, .ref (be 2)), (5, .ref (be 3)), (6, .ref (be 4)), (7, .ref (be 5)), (8, .ref (be 6)), (9, .ref (be 7)), (10, .ref (be 8)), (12, .int (nI n)), (15, .int (nI y)), (16, .int (nI t))]) hx hb dL_law_595 hl (by decide) rfl (fun ls hl => ?_)
    refine lv_aload_n hx hb dL_law_597 rfl (lv_at hl 4 rfl) ?_
    refine lv_aload hx hb dL_law_598 (lv_at hl 9 rfl) ?_
    refine lv_aload hx hb dL_law_600 (lv_at hl 10 rfl) ?_
    refine lv_iload hx hb dL_law_602 (lv_at hl 15 rfl) ?_
    refine x_callv (va_runS (As := [.ref (be 0), .ref (be 5), .ref (be 6), .int (nI t)]) (rest := []) ⟨hx, hb, hml, hown, hts⟩ (k_L_removes l D be cI cJ (cW ax ar ad cO (uB σ 1 t false)) (cT cO) H.size σ ρ γ ht L9 hR9 (sr_len hS9) (fun x hx => sr_lt hS9 hx)) (va_cwS 4 hts gL_law_L_removes rfl rfl rfl (by decide +kernel) ⟨Nat.le_of_ble_eq_true rfl, Nat.le_of_ble_eq_true rfl⟩) (xPreS mE_ok trivial hK hA hP hD hS) rfl rfl hl.1 rfl (lv_room (Nat.le_of_ble_eq_true rfl)) dL_law_604 ⟨(by show cells + 2 + 0 ≤ room_1.cells; omega), (by show slots + 12 + 0 ≤ room_1.slots; omega)⟩) hD hS hA (fun u H locs hp hP hD hS => ?_)
    obtain ⟨σ2, ρ2, γ2⟩ := u
    obtain ⟨hu2, hR2⟩ := hp
    have hu2 : σ2 = uB σ 1 t false := hu2
    rw [hu2] at hP hD
    have hR2 : Row ρ2 γ2 (wo t L9) := hR2
    refine lv_goto (tgt := 850) hx hb dL_law_607 (by decide) ?_
    refine W.widen (k := cells + 4) (n := slots + 24) (by omega) (by omega) ?_
    exact kk (uB σ 1 t false) ρ2 γ2 H locs ls (si_drop hI ⟨_, hR2, sr_rm hS9 (fun _ _ => rfl) (fun _ _ => rfl)⟩) hP hD hS (lv_sub hl [2, 3, 4, 5, 6, 7, 8, 9, 10, 11, 12, 0, 13, 14] rfl)
  · have hB : gB σ 1 t = false := (uF_z hV9.1 ht).mp c_1
    refine lv_bipush (v := (-13)) hx hb dL_law_566 (by decide) ?_
    refine lv_goto (tgt := 575) hx hb dL_law_568 (by decide) ?_
    refine lv_istore (lv' := [(17, .int (-13)), (0, .ref b), (1, .ref ax), (2, .ref (be 0)), (3, .ref (be 1)), (4, .ref (be 2)), (5, .ref (be 3)), (6, .ref (be 4)), (7, .ref (be 5)), (8, .ref (be 6)), (9, .ref (be 7)), (10, .ref (be 8)), (12, .int (nI n)), (15, .int (nI y)), (16, .int (nI t))]) hx hb dL_law_575 hl (by decide) rfl (fun ls hl => ?_)
    refine lv_aload_n hx hb dL_law_577 rfl (lv_at hl 2 rfl) ?_
    refine lv_iconst (v := 1) hx hb dL_law_578 (by decide) ?_
    refine lv_iload hx hb dL_law_579 (lv_at hl 14 rfl) ?_
    refine lv_iconst (v := 0) hx hb dL_law_581 (by decide) ?_
    have hP := P_c (a := lW be cI cJ (σ, ρ, γ)) (b := cW ax ar ad cO σ) hP
    have hD := D_c (a := lW be cI cJ (σ, ρ, γ)) (b := cW ax ar ad cO σ) hD
    refine f_calli (vx_runSW (As := [.ref ax, .int 1, .int (nI t), .int 0]) (rest := []) ⟨hx, hb, hml, hown, hts⟩ (k_L_told1 l D ax ar ad cO H.size σ ht 0 hfl) (vx_cwSW 4 hts gL_law_L_told rfl rfl rfl (by decide +kernel) ⟨Nat.le_of_ble_eq_true rfl, Nat.le_of_ble_eq_true rfl⟩) (xPreS xE_ok hE hKc hA (P_l hP) (D_l hD) hS) rfl rfl hl.1 rfl (lv_room (Nat.le_of_ble_eq_true rfl)) dL_law_582 ⟨(by show cells + 2 ≤ room_1.cells; omega), (by show slots + 12 ≤ room_1.slots; omega)⟩) hP hD hS hA (fun r u H locs hp hP hD hS => ?_)
    obtain ⟨rfl, hu9⟩ := hp.2 hB
    rw [hu9] at hP hD
    have hP : va_P D vwCl (lX be cI cJ (cW ax ar ad cO σ) (σ, ρ, γ)) H := P_c hP
    have hD : va_D A (lX be cI cJ (cW ax ar ad cO σ) (σ, ρ, γ)) := D_c hD
    refine lv_iload hx hb dL_law_585 (lv_at hl 0 rfl) ?_
    refine lv_icmp_ne (tgt := 594) hx hb dL_law_587 (by decide) (fun c_3 => absurd (by decide) c_3) (fun _ => ?_)
    refine lv_iconst (v := 1) hx hb dL_law_590 (by decide) ?_
    refine lv_goto (tgt := 595) hx hb dL_law_591 (by decide) ?_
    refine lv_istore (lv' := [(11, .int 1), (17, .int (-13)), (0, .ref b), (1, .ref ax), (2, .ref (be 0)), (3, .ref (be 1)), (4, .ref (be 2)), (5, .ref (be 3)), (6, .ref (be 4)), (7, .ref (be 5)), (8, .ref (be 6)), (9, .ref (be 7)), (10, .ref (be 8)), (12, .int (nI n)), (15, .int (nI y)), (16, .int (nI t))]) hx hb dL_law_595 hl (by decide) rfl (fun ls hl => ?_)
    refine lv_aload_n hx hb dL_law_597 rfl (lv_at hl 4 rfl) ?_
    refine lv_aload hx hb dL_law_598 (lv_at hl 9 rfl) ?_
    refine lv_aload hx hb dL_law_600 (lv_at hl 10 rfl) ?_
    refine lv_iload hx hb dL_law_602 (lv_at hl 15 rfl) ?_
    refine x_callv (va_runS (As := [.ref (be 0), .ref (be 5), .ref (be 6), .int (nI t)]) (rest := []) ⟨hx, hb, hml, hown, hts⟩ (k_L_removes l D be cI cJ (cW ax ar ad cO σ) (cT cO) H.size σ ρ γ ht L9 hR9 (sr_len hS9) (fun x hx => sr_lt hS9 hx)) (va_cwS 4 hts gL_law_L_removes rfl rfl rfl (by decide +kernel) ⟨Nat.le_of_ble_eq_true rfl, Nat.le_of_ble_eq_true rfl⟩) (xPreS mE_ok trivial hK hA hP hD hS) rfl rfl hl.1 rfl (lv_room (Nat.le_of_ble_eq_true rfl)) dL_law_604 ⟨(by show cells + 2 + 0 ≤ room_1.cells; omega), (by show slots + 12 + 0 ≤ room_1.slots; omega)⟩) hD hS hA (fun u H locs hp hP hD hS => ?_)
    obtain ⟨σ4, ρ4, γ4⟩ := u
    obtain ⟨hu4, hR4⟩ := hp
    have hu4 : σ4 = uB σ 1 t false := hu4
    rw [hu4] at hP hD
    have hR4 : Row ρ4 γ4 (wo t L9) := hR4
    refine lv_goto (tgt := 850) hx hb dL_law_607 (by decide) ?_
    have hsi := si_drop hI ⟨_, hR4, sr_rm hS9 (fun _ _ => rfl) (fun _ _ => rfl)⟩
    rw [uB_self hB] at hP hD hsi
    refine W.widen (k := cells + 4) (n := slots + 24) (by omega) (by omega) ?_
    exact kk σ ρ4 γ4 H locs ls (hsi) hP hD hS (lv_sub hl [2, 3, 4, 5, 6, 7, 8, 9, 10, 11, 12, 0, 13, 14] rfl)
set_option maxHeartbeats 4000000 in
set_option maxRecDepth 100000 in
theorem c_purge {p : Program} {l : Launch} {e : Env} {s : State} {m : MethodId} {below : List Frame} {meth : Method} {c : Code} {H : Heap} {locs : List Loc} {cells slots : Nat} {Q : State → Prop} {ls : Array Slot} {A : Nat → Prop} {D : va_G} {cO cI cJ : ClassId} {b L : Nat} {xs : Nat → Int32} {ax ar : Nat} {ad be : Nat → Nat} {n : Nat} {σ : St} {ρ : Nat → Int32} {γ : Nat} (C : LC p l s m meth c A D cO cI cJ b L xs) (hn : n < 100) (hI : SI n σ ρ γ) (y t : Nat) (hy : y < 2 ^ 27) (ht : t < 32) (hcl : cells + 4 ≤ room_1.cells) (hsl : slots + 24 ≤ room_1.slots) (hP : va_P D vwCl (lX be cI cJ (cW ax ar ad cO σ) (σ, ρ, γ)) H) (hD : va_D A (lX be cI cJ (cW ax ar ad cO σ) (σ, ρ, γ))) (hS : va_S A s.heap H locs) (hl : lv_has ls 20 [(0, .ref b), (1, .ref ax), (2, .ref (be 0)), (3, .ref (be 1)), (4, .ref (be 2)), (5, .ref (be 3)), (6, .ref (be 4)), (7, .ref (be 5)), (8, .ref (be 6)), (9, .ref (be 7)), (10, .ref (be 8)), (12, .int (nI n)), (15, .int (nI y)), (16, .int (nI t))])
    (kk : ∀ (σ9 : St) (ρ9 : Nat → Int32) (γ9 : Nat) (H9 : Heap) (locs9 : List Loc) (ls9 : Array Slot), SI (n + 1) σ9 ρ9 γ9 → va_P D vwCl (lX be cI cJ (cW ax ar ad cO σ9) (σ9, ρ9, γ9)) H9 → va_D A (lX be cI cJ (cW ax ar ad cO σ9) (σ9, ρ9, γ9)) → va_S A s.heap H9 locs9 → lv_has ls9 20 [(0, .ref b), (1, .ref ax), (2, .ref (be 0)), (3, .ref (be 1)), (4, .ref (be 2)), (5, .ref (be 3)), (6, .ref (be 4)), (7, .ref (be 5)), (8, .ref (be 6)), (9, .ref (be 7)), (10, .ref (be 8)), (11, .int 1), (12, .int (nI n)), (15, .int (nI y))] → W p l e room_1 s m #[Value.ref b] below meth c H9 locs9 (cells + 4) (slots + 24) Q (F0 m 850 ls9 [])) :
    W p l e room_1 s m #[Value.ref b] below meth c H locs cells slots Q (F0 m 617 ls []) := by
  obtain ⟨hx, hb, hml, hown, hts, hE, hK, hA, hX, hbl, hbA, hfl, hL, hlocks⟩ := C
  have hKc : va_K D vwCl (cT cO) s := hK.sub [2] rfl
  obtain ⟨hV9, ⟨hT1, hT8⟩, L9, hR9, hS9⟩ := id hI
  have hn30 : n < 2 ^ 30 := by omega
  refine lv_aload_n hx hb dL_law_617 rfl (lv_at hl 1 rfl) ?_
  have hP := P_c (a := lW be cI cJ (σ, ρ, γ)) (b := cW ax ar ad cO σ) hP
  have hD := D_c (a := lW be cI cJ (σ, ρ, γ)) (b := cW ax ar ad cO σ) hD
  refine f_calli (va_runV (As := []) (rest := []) ⟨hx, hb, hml, hown, hts⟩ (k_X1_purge l D ax ar ad cO H.size σ) (cwV 0 hts gL_law_X1_purge rfl rfl rfl (by decide +kernel) ⟨Nat.le_of_ble_eq_true rfl, Nat.le_of_ble_eq_true rfl⟩) (xPreV xE_ok hE hKc hA (P_l hP) (D_l hD) hS (q0 := 0) (ci := 1) rfl rfl rfl) rfl rfl hl.1 rfl (lv_room (Nat.le_of_ble_eq_true rfl)) dL_law_618 ⟨(by show cells + 0 ≤ room_1.cells; omega), (by show slots + 0 ≤ room_1.slots; omega)⟩) hP hD hS hA (fun r u H locs hp hP hD hS => ?_)
  obtain ⟨rfl, hu9⟩ := hp
  rw [hu9] at hP hD
  have hP : va_P D vwCl (lX be cI cJ (cW ax ar ad cO (rmO σ)) (σ, ρ, γ)) H := P_c hP
  have hD : va_D A (lX be cI cJ (cW ax ar ad cO (rmO σ)) (σ, ρ, γ)) := D_c hD
  refine lv_aload_n hx hb dL_law_621 rfl (lv_at hl 2 rfl) ?_
  refine lv_aload hx hb dL_law_622 (lv_at hl 4 rfl) ?_
  refine lv_aload hx hb dL_law_624 (lv_at hl 7 rfl) ?_
  refine lv_aload hx hb dL_law_626 (lv_at hl 8 rfl) ?_
  refine x_calli (va_runS (As := [.ref (be 0), .ref (be 2), .ref (be 5), .ref (be 6)]) (rest := [.int (rmC σ 32)]) ⟨hx, hb, hml, hown, hts⟩ (k_L_clears l D be cI cJ (cW ax ar ad cO (rmO σ)) (cT cO) H.size σ ρ γ L9 hR9 hS9 hV9.1) (va_cwS 4 hts gL_law_L_clears rfl rfl rfl (by decide +kernel) ⟨Nat.le_of_ble_eq_true rfl, Nat.le_of_ble_eq_true rfl⟩) (xPreS mE_ok trivial hK hA hP hD hS) rfl rfl hl.1 rfl (lv_room (Nat.le_of_ble_eq_true rfl)) dL_law_628 ⟨(by show cells + 0 + 0 ≤ room_1.cells; omega), (by show slots + 0 + 0 ≤ room_1.slots; omega)⟩) hD hS hA (fun r u H locs hp hP hD hS => ?_)
  obtain ⟨σ2, ρ2, γ2⟩ := u
  obtain ⟨rfl, hu2, hO2⟩ := hp
  have hu2 : σ2 = rmO σ := hu2
  have hO2 : OK σ2 ρ2 γ2 := hO2
  rw [hu2] at hP hD hO2
  refine lv_icmp_ne (tgt := 638) hx hb dL_law_631 (by decide) (fun c9 => absurd (rfl) c9) (fun _ => ?_)
  refine lv_iconst (v := 1) hx hb dL_law_634 (by decide) ?_
  refine lv_goto (tgt := 639) hx hb dL_law_635 (by decide) ?_
  refine lv_istore (lv' := [(11, .int 1), (0, .ref b), (1, .ref ax), (2, .ref (be 0)), (3, .ref (be 1)), (4, .ref (be 2)), (5, .ref (be 3)), (6, .ref (be 4)), (7, .ref (be 5)), (8, .ref (be 6)), (9, .ref (be 7)), (10, .ref (be 8)), (12, .int (nI n)), (15, .int (nI y)), (16, .int (nI t))]) hx hb dL_law_639 hl (by decide) rfl (fun ls hl => ?_)
  refine lv_goto (tgt := 850) hx hb dL_law_641 (by decide) ?_
  refine W.widen (k := cells + 4) (n := slots + 24) (by omega) (by omega) ?_
  exact kk (rmO σ) ρ2 γ2 H locs ls (si_purge hI hO2) hP hD hS (lv_sub hl [1, 2, 3, 4, 5, 6, 7, 8, 9, 10, 11, 0, 12, 13] rfl)
set_option maxHeartbeats 4000000 in
set_option maxRecDepth 100000 in
theorem c_cap {p : Program} {l : Launch} {e : Env} {s : State} {m : MethodId} {below : List Frame} {meth : Method} {c : Code} {H : Heap} {locs : List Loc} {cells slots : Nat} {Q : State → Prop} {ls : Array Slot} {A : Nat → Prop} {D : va_G} {cO cI cJ : ClassId} {b L : Nat} {xs : Nat → Int32} {ax ar : Nat} {ad be : Nat → Nat} {n : Nat} {σ : St} {ρ : Nat → Int32} {γ : Nat} (C : LC p l s m meth c A D cO cI cJ b L xs) (hn : n < 100) (hI : SI n σ ρ γ) (y t : Nat) (hy : y < 2 ^ 27) (ht : t < 32) (hcl : cells + 4 ≤ room_1.cells) (hsl : slots + 24 ≤ room_1.slots) (hP : va_P D vwCl (lX be cI cJ (cW ax ar ad cO σ) (σ, ρ, γ)) H) (hD : va_D A (lX be cI cJ (cW ax ar ad cO σ) (σ, ρ, γ))) (hS : va_S A s.heap H locs) (hl : lv_has ls 20 [(0, .ref b), (1, .ref ax), (2, .ref (be 0)), (3, .ref (be 1)), (4, .ref (be 2)), (5, .ref (be 3)), (6, .ref (be 4)), (7, .ref (be 5)), (8, .ref (be 6)), (9, .ref (be 7)), (10, .ref (be 8)), (12, .int (nI n)), (15, .int (nI y)), (16, .int (nI t))])
    (kk : ∀ (σ9 : St) (ρ9 : Nat → Int32) (γ9 : Nat) (H9 : Heap) (locs9 : List Loc) (ls9 : Array Slot), SI (n + 1) σ9 ρ9 γ9 → va_P D vwCl (lX be cI cJ (cW ax ar ad cO σ9) (σ9, ρ9, γ9)) H9 → va_D A (lX be cI cJ (cW ax ar ad cO σ9) (σ9, ρ9, γ9)) → va_S A s.heap H9 locs9 → lv_has ls9 20 [(0, .ref b), (1, .ref ax), (2, .ref (be 0)), (3, .ref (be 1)), (4, .ref (be 2)), (5, .ref (be 3)), (6, .ref (be 4)), (7, .ref (be 5)), (8, .ref (be 6)), (9, .ref (be 7)), (10, .ref (be 8)), (11, .int 1), (12, .int (nI n)), (15, .int (nI y))] → W p l e room_1 s m #[Value.ref b] below meth c H9 locs9 (cells + 4) (slots + 24) Q (F0 m 850 ls9 [])) :
    W p l e room_1 s m #[Value.ref b] below meth c H locs cells slots Q (F0 m 651 ls []) := by
  obtain ⟨hx, hb, hml, hown, hts, hE, hK, hA, hX, hbl, hbA, hfl, hL, hlocks⟩ := C
  have hKc : va_K D vwCl (cT cO) s := hK.sub [2] rfl
  obtain ⟨hV9, ⟨hT1, hT8⟩, L9, hR9, hS9⟩ := id hI
  have hn30 : n < 2 ^ 30 := by omega
  have B672 : ∀ (cp : Nat) (H : Heap) (locs : List Loc) (ls : Array Slot), 1 ≤ cp ∧ cp ≤ 10000 → va_P D vwCl (lX be cI cJ (cW ax ar ad cO σ) (σ, ρ, γ)) H → va_D A (lX be cI cJ (cW ax ar ad cO σ) (σ, ρ, γ)) → va_S A s.heap H locs → lv_has ls 20 [(0, .ref b), (1, .ref ax), (2, .ref (be 0)), (3, .ref (be 1)), (4, .ref (be 2)), (5, .ref (be 3)), (6, .ref (be 4)), (7, .ref (be 5)), (8, .ref (be 6)), (9, .ref (be 7)), (10, .ref (be 8)), (12, .int (nI n)), (15, .int (nI y)), (16, .int (nI t))] → W p l e room_1 s m #[Value.ref b] below meth c H locs (cells) (slots) Q (F0 m 672 ls [.int (nI cp)]) := by
    intro cp H locs ls hcp hP hD hS hl
    have hin9 : inR (nI cp) 1 10000 = true := in_N hcp (by decide)
    refine lv_istore (lv' := [(17, .int (nI cp)), (0, .ref b), (1, .ref ax), (2, .ref (be 0)), (3, .ref (be 1)), (4, .ref (be 2)), (5, .ref (be 3)), (6, .ref (be 4)), (7, .ref (be 5)), (8, .ref (be 6)), (9, .ref (be 7)), (10, .ref (be 8)), (12, .int (nI n)), (15, .int (nI y)), (16, .int (nI t))]) hx hb dL_law_672 hl (by decide) rfl (fun ls hl => ?_)
    refine lv_aload_n hx hb dL_law_674 rfl (lv_at hl 3 rfl) ?_
    refine lv_aload hx hb dL_law_675 (lv_at hl 5 rfl) ?_
    refine lv_aload hx hb dL_law_677 (lv_at hl 6 rfl) ?_
    refine lv_aload hx hb dL_law_679 (lv_at hl 9 rfl) ?_
    refine lv_iconst (v := 0) hx hb dL_law_681 (by decide) ?_
    refine x_calli (va_runS (As := [.ref (be 0), .ref (be 2), .ref (be 3), .ref (be 6), .int 0]) (rest := []) ⟨hx, hb, hml, hown, hts⟩ (k_L_pinned l D be cI cJ (cW ax ar ad cO σ) (cT cO) H.size σ ρ γ false) (va_cwS 5 hts gL_law_L_pinned rfl rfl rfl (by decide +kernel) ⟨Nat.le_of_ble_eq_true rfl, Nat.le_of_ble_eq_true rfl⟩) (xPreS mE_ok trivial hK hA hP hD hS) rfl rfl hl.1 rfl (lv_room (Nat.le_of_ble_eq_true rfl)) dL_law_682 ⟨(by show cells + 0 ≤ room_1.cells; omega), (by show slots + 0 ≤ room_1.slots; omega)⟩) hD hS hA (fun r u H locs hp hP hD hS => ?_)
    obtain ⟨rfl, hu9⟩ := hp
    rw [hu9] at hP hD
    refine lv_iload hx hb dL_law_685 (lv_at hl 0 rfl) ?_
    refine lv_icmp_gt (tgt := 694) hx hb dL_law_687 (by decide) (fun c_1 => ?_) (fun c_1 => ?_)
    · refine lv_iconst (v := 0) hx hb dL_law_694 (by decide) ?_
      refine lv_istore (lv' := [(18, .int 0), (17, .int (nI cp)), (0, .ref b), (1, .ref ax), (2, .ref (be 0)), (3, .ref (be 1)), (4, .ref (be 2)), (5, .ref (be 3)), (6, .ref (be 4)), (7, .ref (be 5)), (8, .ref (be 6)), (9, .ref (be 7)), (10, .ref (be 8)), (12, .int (nI n)), (15, .int (nI y)), (16, .int (nI t))]) hx hb dL_law_695 hl (by decide) rfl (fun ls hl => ?_)
      refine lv_aload hx hb dL_law_697 (lv_at hl 10 rfl) ?_
      refine lv_bipush (v := 6) hx hb dL_law_699 (by decide) ?_
      refine l_ld6 hx hb hK hP (k := 6) (by decide) (v := gI σ 11) rfl dL_law_701 ?_
      refine lv_istore (lv' := [(19, .int (gI σ 11)), (18, .int 0), (17, .int (nI cp)), (0, .ref b), (1, .ref ax), (2, .ref (be 0)), (3, .ref (be 1)), (4, .ref (be 2)), (5, .ref (be 3)), (6, .ref (be 4)), (7, .ref (be 5)), (8, .ref (be 6)), (9, .ref (be 7)), (10, .ref (be 8)), (12, .int (nI n)), (15, .int (nI y)), (16, .int (nI t))]) hx hb dL_law_702 hl (by decide) rfl (fun ls hl => ?_)
      refine lv_iload hx hb dL_law_704 (lv_at hl 1 rfl) ?_
      refine lv_if_eq (tgt := 759) hx hb dL_law_706 (by decide) (fun _ => ?_) (fun c_2 => absurd (by decide) c_2)
      refine lv_aload_n hx hb dL_law_759 rfl (lv_at hl 4 rfl) ?_
      refine lv_iconst (v := 2) hx hb dL_law_760 (by decide) ?_
      refine lv_iload hx hb dL_law_761 (lv_at hl 2 rfl) ?_
      refine lv_iconst (v := 0) hx hb dL_law_763 (by decide) ?_
      have hP := P_c (a := lW be cI cJ (σ, ρ, γ)) (b := cW ax ar ad cO σ) hP
      have hD := D_c (a := lW be cI cJ (σ, ρ, γ)) (b := cW ax ar ad cO σ) hD
      refine f_calli (vx_runSW (As := [.ref ax, .int 2, .int (nI cp), .int 0]) (rest := []) ⟨hx, hb, hml, hown, hts⟩ (k_L_told2 l D ax ar ad cO H.size σ (nI cp) 0 hin9 hfl) (vx_cwSW 4 hts gL_law_L_told rfl rfl rfl (by decide +kernel) ⟨Nat.le_of_ble_eq_true rfl, Nat.le_of_ble_eq_true rfl⟩) (xPreS xE_ok hE hKc hA (P_l hP) (D_l hD) hS) rfl rfl hl.1 rfl (lv_room (Nat.le_of_ble_eq_true rfl)) dL_law_764 ⟨(by show cells + 0 + 2 ≤ room_1.cells; omega), (by show slots + 0 + 12 ≤ room_1.slots; omega)⟩) hP hD hS hA (fun r u H locs hp hP hD hS => ?_)
      obtain ⟨rfl, hu9⟩ := hp.1 (by rw [← mPinF]; exact c_1)
      rw [hu9] at hP hD
      have hP : va_P D vwCl (lX be cI cJ (cW ax ar ad cO σ) (σ, ρ, γ)) H := P_c hP
      have hD : va_D A (lX be cI cJ (cW ax ar ad cO σ) (σ, ρ, γ)) := D_c hD
      refine lv_iload hx hb dL_law_767 (lv_at hl 1 rfl) ?_
      refine lv_if_eq (tgt := 783) hx hb dL_law_769 (by decide) (fun _ => ?_) (fun c_3 => absurd (by decide) c_3)
      refine lv_bipush (v := (-13)) hx hb dL_law_783 (by decide) ?_
      refine lv_icmp_ne (tgt := 792) hx hb dL_law_785 (by decide) (fun c_4 => absurd (by decide) c_4) (fun _ => ?_)
      refine lv_iconst (v := 1) hx hb dL_law_788 (by decide) ?_
      refine lv_goto (tgt := 793) hx hb dL_law_789 (by decide) ?_
      refine lv_istore (lv' := [(11, .int 1), (19, .int (gI σ 11)), (18, .int 0), (17, .int (nI cp)), (0, .ref b), (1, .ref ax), (2, .ref (be 0)), (3, .ref (be 1)), (4, .ref (be 2)), (5, .ref (be 3)), (6, .ref (be 4)), (7, .ref (be 5)), (8, .ref (be 6)), (9, .ref (be 7)), (10, .ref (be 8)), (12, .int (nI n)), (15, .int (nI y)), (16, .int (nI t))]) hx hb dL_law_793 hl (by decide) rfl (fun ls hl => ?_)
      refine lv_goto (tgt := 850) hx hb dL_law_795 (by decide) ?_
      refine W.widen (k := cells + 4) (n := slots + 24) (by omega) (by omega) ?_
      exact kk σ ρ γ H locs ls (si_up hI) hP hD hS (lv_sub hl [4, 5, 6, 7, 8, 9, 10, 11, 12, 13, 14, 0, 15, 16] rfl)
    · have hnp : ¬ nI cp < pinA σ := by rw [← mPinF]; exact c_1
      obtain ⟨N, τ, ⟨h0, hRun⟩, hcap, hVN⟩ := cap_ok hV9 hin9 hnp
      have B759 : ∀ (ρ3 : Nat → Int32) (γ3 : Nat) (H : Heap) (locs : List Loc) (ls : Array Slot), OK (τ N) ρ3 γ3 → gI (τ N) 11 = gI σ 11 + nI N → va_P D vwCl (lX be cI cJ (cW ax ar ad cO σ) (τ N, ρ3, γ3)) H → va_D A (lX be cI cJ (cW ax ar ad cO σ) (τ N, ρ3, γ3)) → va_S A s.heap H locs → lv_has ls 20 [(0, .ref b), (1, .ref ax), (2, .ref (be 0)), (3, .ref (be 1)), (4, .ref (be 2)), (5, .ref (be 3)), (6, .ref (be 4)), (7, .ref (be 5)), (8, .ref (be 6)), (9, .ref (be 7)), (10, .ref (be 8)), (12, .int (nI n)), (15, .int (nI y)), (16, .int (nI t)), (17, .int (nI cp)), (18, .int 1), (19, .int (gI σ 11))] → W p l e room_1 s m #[Value.ref b] below meth c H locs (cells + 0 + 0 + 0 + 0) (slots + 0 + 0 + 0 + 0) Q (F0 m 759 ls []) := by
        intro ρ3 γ3 H locs ls hO3 h11 hP hD hS hl
        refine lv_aload_n hx hb dL_law_759 rfl (lv_at hl 1 rfl) ?_
        refine lv_iconst (v := 2) hx hb dL_law_760 (by decide) ?_
        refine lv_iload hx hb dL_law_761 (lv_at hl 14 rfl) ?_
        refine lv_iconst (v := 0) hx hb dL_law_763 (by decide) ?_
        have hP := P_c (a := lW be cI cJ (τ N, ρ3, γ3)) (b := cW ax ar ad cO σ) hP
        have hD := D_c (a := lW be cI cJ (τ N, ρ3, γ3)) (b := cW ax ar ad cO σ) hD
        refine f_calli (vx_runSW (As := [.ref ax, .int 2, .int (nI cp), .int 0]) (rest := []) ⟨hx, hb, hml, hown, hts⟩ (k_L_told2 l D ax ar ad cO H.size σ (nI cp) 0 hin9 hfl) (vx_cwSW 4 hts gL_law_L_told rfl rfl rfl (by decide +kernel) ⟨Nat.le_of_ble_eq_true rfl, Nat.le_of_ble_eq_true rfl⟩) (xPreS xE_ok hE hKc hA (P_l hP) (D_l hD) hS) rfl rfl hl.1 rfl (lv_room (Nat.le_of_ble_eq_true rfl)) dL_law_764 ⟨(by show cells + 0 + 0 + 0 + 0 + 2 ≤ room_1.cells; omega), (by show slots + 0 + 0 + 0 + 0 + 12 ≤ room_1.slots; omega)⟩) hP hD hS hA (fun r u H locs hp hP hD hS => ?_)
        obtain ⟨hr9, hu9⟩ := hp.2 hnp
        rw [hcap] at hr9 hu9
        have hr9 : r = nI N := hr9
        have hu9 : u = τ N := hu9
        subst hr9
        rw [hu9] at hP hD
        have hP : va_P D vwCl (lX be cI cJ (cW ax ar ad cO (τ N)) (τ N, ρ3, γ3)) H := P_c hP
        have hD : va_D A (lX be cI cJ (cW ax ar ad cO (τ N)) (τ N, ρ3, γ3)) := D_c hD
        refine lv_iload hx hb dL_law_767 (lv_at hl 15 rfl) ?_
        refine lv_if_eq (tgt := 783) hx hb dL_law_769 (by decide) (fun c_5 => absurd c_5 (by decide)) (fun _ => ?_)
        refine lv_aload hx hb dL_law_772 (lv_at hl 8 rfl) ?_
        refine lv_bipush (v := 6) hx hb dL_law_774 (by decide) ?_
        refine l_ld6 hx hb hK hP (k := 6) (by decide) (v := gI (τ N) 11) rfl dL_law_776 ?_
        refine lv_iload hx hb dL_law_777 (lv_at hl 16 rfl) ?_
        refine lv_isub hx hb dL_law_779 ?_
        refine lv_goto (tgt := 785) hx hb dL_law_780 (by decide) ?_
        refine lv_icmp_ne (tgt := 792) hx hb dL_law_785 (by decide) (fun c9 => absurd (by rw [h11]; exact (i_back _ _).symm) c9) (fun _ => ?_)
        refine lv_iconst (v := 1) hx hb dL_law_788 (by decide) ?_
        refine lv_goto (tgt := 793) hx hb dL_law_789 (by decide) ?_
        refine lv_istore (lv' := [(11, .int 1), (0, .ref b), (1, .ref ax), (2, .ref (be 0)), (3, .ref (be 1)), (4, .ref (be 2)), (5, .ref (be 3)), (6, .ref (be 4)), (7, .ref (be 5)), (8, .ref (be 6)), (9, .ref (be 7)), (10, .ref (be 8)), (12, .int (nI n)), (15, .int (nI y)), (16, .int (nI t)), (17, .int (nI cp)), (18, .int 1), (19, .int (gI σ 11))]) hx hb dL_law_793 hl (by decide) rfl (fun ls hl => ?_)
        refine lv_goto (tgt := 850) hx hb dL_law_795 (by decide) ?_
        refine W.widen (k := cells + 4) (n := slots + 24) (by omega) (by omega) ?_
        exact kk (τ N) ρ3 γ3 H locs ls (si_cap hI hcap hVN hO3) hP hD hS (lv_sub hl [1, 2, 3, 4, 5, 6, 7, 8, 9, 10, 11, 0, 12, 13] rfl)
      have loop : ∀ (n2 : Nat) (j9 : Nat) (ρ3 : Nat → Int32) (γ3 : Nat) (ls : Array Slot) (H : Heap) (locs : List Loc), N - j9 < n2 → j9 ≤ N → OK (τ j9) ρ3 γ3 → V n (τ j9) → gI (τ j9) 11 = gI σ 11 + nI j9 → va_P D vwCl (lX be cI cJ (cW ax ar ad cO σ) (τ j9, ρ3, γ3)) H → va_D A (lX be cI cJ (cW ax ar ad cO σ) (τ j9, ρ3, γ3)) → va_S A s.heap H locs → lv_has ls 20 [(0, .ref b), (1, .ref ax), (2, .ref (be 0)), (3, .ref (be 1)), (4, .ref (be 2)), (5, .ref (be 3)), (6, .ref (be 4)), (7, .ref (be 5)), (8, .ref (be 6)), (9, .ref (be 7)), (10, .ref (be 8)), (12, .int (nI n)), (15, .int (nI y)), (16, .int (nI t)), (17, .int (nI cp)), (18, .int 1), (19, .int (gI σ 11))] → W p l e room_1 s m #[Value.ref b] below meth c H locs (cells + 0 + 0 + 0) (slots + 0 + 0 + 0) Q (F0 m 735 ls []) := by
        intro n2
        induction n2 with
        | zero =>
          intro j9 ρ3 γ3 ls H locs h9
          exact absurd h9 (Nat.not_lt_zero _)
        | succ n2 ih2 =>
          intro j9 ρ3 γ3 ls H locs hn2 hj hO3 hV3 h11 hP hD hS hl
          obtain ⟨L4, hR4, hS4⟩ := id hO3
          refine lv_aload_n hx hb dL_law_735 rfl (lv_at hl 2 rfl) ?_
          refine x_calli (va_runS (As := [.ref (be 0)]) (rest := []) ⟨hx, hb, hml, hown, hts⟩ (k_L_used l D be cI cJ (cW ax ar ad cO σ) (cT cO) H.size (τ j9) ρ3 γ3) (va_cwS 1 hts gL_law_L_used rfl rfl rfl (by decide +kernel) ⟨Nat.le_of_ble_eq_true rfl, Nat.le_of_ble_eq_true rfl⟩) (xPreS mE_ok trivial hK hA hP hD hS) rfl rfl hl.1 rfl (lv_room (Nat.le_of_ble_eq_true rfl)) dL_law_736 ⟨(by show cells + 0 + 0 + 0 + 0 ≤ room_1.cells; omega), (by show slots + 0 + 0 + 0 + 0 ≤ room_1.slots; omega)⟩) hD hS hA (fun r u H locs hp hP hD hS => ?_)
          obtain ⟨rfl, hu9⟩ := hp
          rw [hu9] at hP hD
          refine lv_iload hx hb dL_law_739 (lv_at hl 14 rfl) ?_
          refine x_icmp_le (tgt := 759) hx hb dL_law_741 (by decide) (fun c_6 => ?_) (fun c_6 => ?_)
          · have hjN : j9 = N := by
              rcases Nat.lt_or_ge j9 N with q | q
              · exact absurd (hRun.1 j9 q).1 c_6
              · omega
            subst hjN
            exact B759 ρ3 γ3 H locs ls hO3 h11 hP hD hS (lv_sub hl [0, 1, 2, 3, 4, 5, 6, 7, 8, 9, 10, 11, 12, 13, 14, 15, 16] rfl)
          · have hlt : j9 < N := by
              rcases Nat.lt_or_ge j9 N with q | q
              · exact q
              · have hjN : j9 = N := by omega
                rw [hjN] at c_6
                exact absurd c_6 hRun.2
            obtain ⟨-, k9, hk9, hat, hst⟩ := hRun.1 j9 hlt
            have h04 : L4[0]? = some k9 := by rw [← row_0 hV3.ord hS4, ← at_0 hV3.ord]; exact hat
            refine lv_aload_n hx hb dL_law_744 rfl (lv_at hl 2 rfl) ?_
            refine lv_aload hx hb dL_law_745 (lv_at hl 7 rfl) ?_
            refine lv_aload hx hb dL_law_747 (lv_at hl 8 rfl) ?_
            refine lv_aload hx hb dL_law_749 (lv_at hl 9 rfl) ?_
            refine lv_aload hx hb dL_law_751 (lv_at hl 10 rfl) ?_
            refine x_callv (va_runS (As := [.ref (be 0), .ref (be 5), .ref (be 6), .ref (be 7), .ref (be 8)]) (rest := []) ⟨hx, hb, hml, hown, hts⟩ (k_L_leaves l D be cI cJ (cW ax ar ad cO σ) (cT cO) H.size (τ j9) ρ3 γ3 hk9 L4 hR4 (sr_len hS4) (fun x hx => sr_lt hS4 hx) h04) (va_cwS 5 hts gL_law_L_leaves rfl rfl rfl (by decide +kernel) ⟨Nat.le_of_ble_eq_true rfl, Nat.le_of_ble_eq_true rfl⟩) (xPreS mE_ok trivial hK hA hP hD hS) rfl rfl hl.1 rfl (lv_room (Nat.le_of_ble_eq_true rfl)) dL_law_753 ⟨(by show cells + 0 + 0 + 0 + 0 + 0 ≤ room_1.cells; omega), (by show slots + 0 + 0 + 0 + 0 + 0 ≤ room_1.slots; omega)⟩) hD hS hA (fun u H locs hp hP hD hS => ?_)
            obtain ⟨σ5, ρ5, γ5⟩ := u
            obtain ⟨hu5, hR5⟩ := hp
            have hu5 : σ5 = mLv1 (τ j9) k9 := hu5
            rw [hu5, ← hst] at hP hD
            have hR5 : Row ρ5 γ5 (wo k9 L4) := hR5
            refine lv_goto (tgt := 735) hx hb dL_law_756 (by decide) ?_
            refine W.widen (k := cells + 0 + 0 + 0) (n := slots + 0 + 0 + 0) (by omega) (by omega) ?_
            exact ih2 (j9 + 1) ρ5 γ5 ls H locs (by omega) (by omega) ⟨_, hR5, by rw [hst]; exact sr_rm hS4 (fun _ _ => rfl) (fun _ _ => rfl)⟩ (by rw [hst]; exact mLv1_V hV3 k9) (by rw [hst, mLv1_11, h11, nI_succ, Int32.add_assoc]) hP hD hS (lv_sub hl [0, 1, 2, 3, 4, 5, 6, 7, 8, 9, 10, 11, 12, 13, 14, 15, 16] rfl)
      have hVY : V n (uI σ 3 (nI cp)) := cap_V hV9 hin9
      have hSY : SR (uI σ 3 (nI cp)) (inO (uI σ 3 (nI cp))) L9 := hS9
      refine lv_iconst (v := 1) hx hb dL_law_690 (by decide) ?_
      refine lv_goto (tgt := 695) hx hb dL_law_691 (by decide) ?_
      refine lv_istore (lv' := [(18, .int 1), (17, .int (nI cp)), (0, .ref b), (1, .ref ax), (2, .ref (be 0)), (3, .ref (be 1)), (4, .ref (be 2)), (5, .ref (be 3)), (6, .ref (be 4)), (7, .ref (be 5)), (8, .ref (be 6)), (9, .ref (be 7)), (10, .ref (be 8)), (12, .int (nI n)), (15, .int (nI y)), (16, .int (nI t))]) hx hb dL_law_695 hl (by decide) rfl (fun ls hl => ?_)
      refine lv_aload hx hb dL_law_697 (lv_at hl 10 rfl) ?_
      refine lv_bipush (v := 6) hx hb dL_law_699 (by decide) ?_
      refine l_ld6 hx hb hK hP (k := 6) (by decide) (v := gI σ 11) rfl dL_law_701 ?_
      refine lv_istore (lv' := [(19, .int (gI σ 11)), (18, .int 1), (17, .int (nI cp)), (0, .ref b), (1, .ref ax), (2, .ref (be 0)), (3, .ref (be 1)), (4, .ref (be 2)), (5, .ref (be 3)), (6, .ref (be 4)), (7, .ref (be 5)), (8, .ref (be 6)), (9, .ref (be 7)), (10, .ref (be 8)), (12, .int (nI n)), (15, .int (nI y)), (16, .int (nI t))]) hx hb dL_law_702 hl (by decide) rfl (fun ls hl => ?_)
      refine lv_iload hx hb dL_law_704 (lv_at hl 1 rfl) ?_
      refine lv_if_eq (tgt := 759) hx hb dL_law_706 (by decide) (fun c_7 => absurd c_7 (by decide)) (fun _ => ?_)
      refine lv_aload hx hb dL_law_709 (lv_at hl 11 rfl) ?_
      refine lv_iconst (v := 1) hx hb dL_law_711 (by decide) ?_
      refine lv_iload hx hb dL_law_712 (lv_at hl 2 rfl) ?_
      refine l_st6_1 (v := nI cp) hx hb hK hP hD hS dL_law_714 (fun H locs hP hD hS => ?_)
      refine lv_aload_n hx hb dL_law_715 rfl (lv_at hl 5 rfl) ?_
      refine x_calli (va_runS (As := [.ref (be 0)]) (rest := []) ⟨hx, hb, hml, hown, hts⟩ (k_L_used l D be cI cJ (cW ax ar ad cO σ) (cT cO) H.size (uI σ 3 (nI cp)) ρ γ) (va_cwS 1 hts gL_law_L_used rfl rfl rfl (by decide +kernel) ⟨Nat.le_of_ble_eq_true rfl, Nat.le_of_ble_eq_true rfl⟩) (xPreS mE_ok trivial hK hA hP hD hS) rfl rfl hl.1 rfl (lv_room (Nat.le_of_ble_eq_true rfl)) dL_law_716 ⟨(by show cells + 0 + 0 ≤ room_1.cells; omega), (by show slots + 0 + 0 ≤ room_1.slots; omega)⟩) hD hS hA (fun r u H locs hp hP hD hS => ?_)
      obtain ⟨rfl, hu9⟩ := hp
      rw [hu9] at hP hD
      refine lv_iload hx hb dL_law_719 (lv_at hl 2 rfl) ?_
      refine x_icmp_le (tgt := 735) hx hb dL_law_721 (by decide) (fun c_8 => ?_) (fun c_8 => ?_)
      · have e0 : τ 0 = uI σ 3 (nI cp) := by rw [h0, if_neg c_8]
        rw [← e0] at hP hD
        refine W.widen (k := cells + 0 + 0 + 0) (n := slots + 0 + 0 + 0) (by omega) (by omega) ?_
        exact loop (N + 1) 0 ρ γ ls H locs (by omega) (Nat.zero_le _) ⟨L9, hR9, by rw [e0]; exact hSY⟩ (by rw [e0]; exact hVY) (by rw [e0, gI_u, if_neg (by decide)]; exact (Int32.add_zero _).symm) hP hD hS (lv_sub hl [3, 4, 5, 6, 7, 8, 9, 10, 11, 12, 13, 14, 15, 16, 2, 1, 0] rfl)
      · refine lv_aload_n hx hb dL_law_724 rfl (lv_at hl 5 rfl) ?_
        refine lv_aload hx hb dL_law_725 (lv_at hl 7 rfl) ?_
        refine lv_aload hx hb dL_law_727 (lv_at hl 10 rfl) ?_
        refine lv_aload hx hb dL_law_729 (lv_at hl 11 rfl) ?_
        refine x_calli (va_runS (As := [.ref (be 0), .ref (be 2), .ref (be 5), .ref (be 6)]) (rest := []) ⟨hx, hb, hml, hown, hts⟩ (k_L_clears l D be cI cJ (cW ax ar ad cO σ) (cT cO) H.size (uI σ 3 (nI cp)) ρ γ L9 hR9 hSY hVY.1) (va_cwS 4 hts gL_law_L_clears rfl rfl rfl (by decide +kernel) ⟨Nat.le_of_ble_eq_true rfl, Nat.le_of_ble_eq_true rfl⟩) (xPreS mE_ok trivial hK hA hP hD hS) rfl rfl hl.1 rfl (lv_room (Nat.le_of_ble_eq_true rfl)) dL_law_731 ⟨(by show cells + 0 + 0 + 0 ≤ room_1.cells; omega), (by show slots + 0 + 0 + 0 ≤ room_1.slots; omega)⟩) hD hS hA (fun r u H locs hp hP hD hS => ?_)
        obtain ⟨σ2, ρ2, γ2⟩ := u
        obtain ⟨-, hu2, hO2⟩ := hp
        have hu2 : σ2 = rmO (uI σ 3 (nI cp)) := hu2
        have hO2 : OK σ2 ρ2 γ2 := hO2
        rw [hu2] at hP hD hO2
        refine lv_pop hx hb dL_law_734 rfl ?_
        have e0 : τ 0 = rmO (uI σ 3 (nI cp)) := by rw [h0, if_pos c_8]
        rw [← e0] at hP hD
        refine W.widen (k := cells + 0 + 0 + 0) (n := slots + 0 + 0 + 0) (by omega) (by omega) ?_
        exact loop (N + 1) 0 ρ2 γ2 ls H locs (by omega) (Nat.zero_le _) (by rw [e0]; exact hO2) (by rw [e0]; exact rmO_V hVY) (by rw [e0, rmO_I _ (by decide), gI_u, if_neg (by decide)]; exact (Int32.add_zero _).symm) hP hD hS (lv_sub hl [3, 4, 5, 6, 7, 8, 9, 10, 11, 12, 13, 14, 15, 16, 2, 1, 0] rfl)
  refine lv_iconst (v := 1) hx hb dL_law_651 (by decide) ?_
  refine lv_iload hx hb dL_law_652 (lv_at hl 12 rfl) ?_
  refine lv_iload hx hb dL_law_654 (lv_at hl 12 rfl) ?_
  refine lv_iconst (v := 5) hx hb dL_law_656 (by decide) ?_
  refine lv_irem hx hb dL_law_657 (by decide) ?_
  refine W.eq (g2 := F0 m 658 ls [.int (nI (y % 5)), .int (nI y), .int 1]) (by rw [show nI y - nI y / 5 * 5 = nI (y % 5) from pk_rem (d := 5) (by omega) (by decide) (by decide)]) ?_
  refine lv_if_ne (tgt := 667) hx hb dL_law_658 (by decide) (fun c_9 => ?_) (fun c_9 => ?_)
  · refine lv_sipush (v := 200) hx hb dL_law_667 (by decide) ?_
    refine lv_irem hx hb dL_law_670 (by decide) ?_
    refine W.eq (g2 := F0 m 671 ls [.int (nI (y % 200)), .int 1]) (by rw [show nI y - nI y / 200 * 200 = nI (y % 200) from pk_rem (d := 200) (by omega) (by decide) (by decide)]) ?_
    refine lv_iadd hx hb dL_law_671 ?_
    refine W.eq (g2 := F0 m 672 ls [.int (nI (1 + (y % 200)))]) (by rw [show (1 : Int32) + nI (y % 200) = nI (1 + (y % 200)) from nI_add 1 _]) ?_
    exact B672 (1 + (y % 200)) H locs ls (by omega) hP hD hS (lv_sub hl [0, 1, 2, 3, 4, 5, 6, 7, 8, 9, 10, 11, 12, 13] rfl)
  · refine lv_sipush (v := 10000) hx hb dL_law_661 (by decide) ?_
    refine lv_goto (tgt := 670) hx hb dL_law_664 (by decide) ?_
    refine lv_irem hx hb dL_law_670 (by decide) ?_
    refine W.eq (g2 := F0 m 671 ls [.int (nI (y % 10000)), .int 1]) (by rw [show nI y - nI y / 10000 * 10000 = nI (y % 10000) from pk_rem (d := 10000) (by omega) (by decide) (by decide)]) ?_
    refine lv_iadd hx hb dL_law_671 ?_
    refine W.eq (g2 := F0 m 672 ls [.int (nI (1 + (y % 10000)))]) (by rw [show (1 : Int32) + nI (y % 10000) = nI (1 + (y % 10000)) from nI_add 1 _]) ?_
    exact B672 (1 + (y % 10000)) H locs ls (by omega) hP hD hS (lv_sub hl [0, 1, 2, 3, 4, 5, 6, 7, 8, 9, 10, 11, 12, 13] rfl)
set_option maxHeartbeats 4000000 in
set_option maxRecDepth 100000 in
theorem c_thr {p : Program} {l : Launch} {e : Env} {s : State} {m : MethodId} {below : List Frame} {meth : Method} {c : Code} {H : Heap} {locs : List Loc} {cells slots : Nat} {Q : State → Prop} {ls : Array Slot} {A : Nat → Prop} {D : va_G} {cO cI cJ : ClassId} {b L : Nat} {xs : Nat → Int32} {ax ar : Nat} {ad be : Nat → Nat} {n : Nat} {σ : St} {ρ : Nat → Int32} {γ : Nat} (C : LC p l s m meth c A D cO cI cJ b L xs) (hn : n < 100) (hI : SI n σ ρ γ) (y t : Nat) (hy : y < 2 ^ 27) (ht : t < 32) (hcl : cells + 4 ≤ room_1.cells) (hsl : slots + 24 ≤ room_1.slots) (hP : va_P D vwCl (lX be cI cJ (cW ax ar ad cO σ) (σ, ρ, γ)) H) (hD : va_D A (lX be cI cJ (cW ax ar ad cO σ) (σ, ρ, γ))) (hS : va_S A s.heap H locs) (hl : lv_has ls 20 [(0, .ref b), (1, .ref ax), (2, .ref (be 0)), (3, .ref (be 1)), (4, .ref (be 2)), (5, .ref (be 3)), (6, .ref (be 4)), (7, .ref (be 5)), (8, .ref (be 6)), (9, .ref (be 7)), (10, .ref (be 8)), (12, .int (nI n)), (15, .int (nI y)), (16, .int (nI t))])
    (kk : ∀ (σ9 : St) (ρ9 : Nat → Int32) (γ9 : Nat) (H9 : Heap) (locs9 : List Loc) (ls9 : Array Slot), SI (n + 1) σ9 ρ9 γ9 → va_P D vwCl (lX be cI cJ (cW ax ar ad cO σ9) (σ9, ρ9, γ9)) H9 → va_D A (lX be cI cJ (cW ax ar ad cO σ9) (σ9, ρ9, γ9)) → va_S A s.heap H9 locs9 → lv_has ls9 20 [(0, .ref b), (1, .ref ax), (2, .ref (be 0)), (3, .ref (be 1)), (4, .ref (be 2)), (5, .ref (be 3)), (6, .ref (be 4)), (7, .ref (be 5)), (8, .ref (be 6)), (9, .ref (be 7)), (10, .ref (be 8)), (11, .int 1), (12, .int (nI n)), (15, .int (nI y))] → W p l e room_1 s m #[Value.ref b] below meth c H9 locs9 (cells + 4) (slots + 24) Q (F0 m 850 ls9 [])) :
    W p l e room_1 s m #[Value.ref b] below meth c H locs cells slots Q (F0 m 798 ls []) := by
  obtain ⟨hx, hb, hml, hown, hts, hE, hK, hA, hX, hbl, hbA, hfl, hL, hlocks⟩ := C
  have hKc : va_K D vwCl (cT cO) s := hK.sub [2] rfl
  obtain ⟨hV9, ⟨hT1, hT8⟩, L9, hR9, hS9⟩ := id hI
  have hn30 : n < 2 ^ 30 := by omega
  have B827 : ∀ (th : Nat) (H : Heap) (locs : List Loc) (ls : Array Slot), 1 ≤ th ∧ th ≤ 1000 → va_P D vwCl (lX be cI cJ (cW ax ar ad cO σ) (σ, ρ, γ)) H → va_D A (lX be cI cJ (cW ax ar ad cO σ) (σ, ρ, γ)) → va_S A s.heap H locs → lv_has ls 20 [(0, .ref b), (1, .ref ax), (2, .ref (be 0)), (3, .ref (be 1)), (4, .ref (be 2)), (5, .ref (be 3)), (6, .ref (be 4)), (7, .ref (be 5)), (8, .ref (be 6)), (9, .ref (be 7)), (10, .ref (be 8)), (12, .int (nI n)), (15, .int (nI y)), (16, .int (nI t)), (17, .int (gI σ 4))] → W p l e room_1 s m #[Value.ref b] below meth c H locs (cells) (slots) Q (F0 m 827 ls [.int (nI th), .int 2, .ref (be 6)]) := by
    intro th H locs ls hth hP hD hS hl
    have hin9 : inR (nI th) 1 1000 = true := in_N hth (by decide)
    refine l_st6_2 (v := nI th) hx hb hK hP hD hS dL_law_827 (fun H locs hP hD hS => ?_)
    refine lv_aload_n hx hb dL_law_828 rfl (lv_at hl 1 rfl) ?_
    refine lv_iconst (v := 3) hx hb dL_law_829 (by decide) ?_
    refine lv_aload hx hb dL_law_830 (lv_at hl 8 rfl) ?_
    refine lv_iconst (v := 2) hx hb dL_law_832 (by decide) ?_
    refine l_ld6 hx hb hK hP (k := 2) (by decide) (v := nI th) rfl dL_law_833 ?_
    refine lv_iconst (v := 0) hx hb dL_law_834 (by decide) ?_
    have hP := P_c (a := lW be cI cJ (uI σ 4 (nI th), ρ, γ)) (b := cW ax ar ad cO σ) hP
    have hD := D_c (a := lW be cI cJ (uI σ 4 (nI th), ρ, γ)) (b := cW ax ar ad cO σ) hD
    refine f_calli (vx_runSW (As := [.ref ax, .int 3, .int (nI th), .int 0]) (rest := []) ⟨hx, hb, hml, hown, hts⟩ (k_L_told3 l D ax ar ad cO H.size σ (nI th) 0 hin9 hfl) (vx_cwSW 4 hts gL_law_L_told rfl rfl rfl (by decide +kernel) ⟨Nat.le_of_ble_eq_true rfl, Nat.le_of_ble_eq_true rfl⟩) (xPreS xE_ok hE hKc hA (P_l hP) (D_l hD) hS) rfl rfl hl.1 rfl (lv_room (Nat.le_of_ble_eq_true rfl)) dL_law_835 ⟨(by show cells + 1 ≤ room_1.cells; omega), (by show slots + 6 ≤ room_1.slots; omega)⟩) hP hD hS hA (fun r u H locs hp hP hD hS => ?_)
    obtain ⟨rfl, hu9⟩ := hp
    rw [hu9] at hP hD
    have hP : va_P D vwCl (lX be cI cJ (cW ax ar ad cO (uI σ 4 (nI th))) (uI σ 4 (nI th), ρ, γ)) H := P_c hP
    have hD : va_D A (lX be cI cJ (cW ax ar ad cO (uI σ 4 (nI th))) (uI σ 4 (nI th), ρ, γ)) := D_c hD
    refine lv_iload hx hb dL_law_838 (lv_at hl 14 rfl) ?_
    refine lv_icmp_ne (tgt := 847) hx hb dL_law_840 (by decide) (fun c9 => absurd (rfl) c9) (fun _ => ?_)
    refine lv_iconst (v := 1) hx hb dL_law_843 (by decide) ?_
    refine lv_goto (tgt := 848) hx hb dL_law_844 (by decide) ?_
    refine lv_istore (lv' := [(11, .int 1), (0, .ref b), (1, .ref ax), (2, .ref (be 0)), (3, .ref (be 1)), (4, .ref (be 2)), (5, .ref (be 3)), (6, .ref (be 4)), (7, .ref (be 5)), (8, .ref (be 6)), (9, .ref (be 7)), (10, .ref (be 8)), (12, .int (nI n)), (15, .int (nI y)), (16, .int (nI t)), (17, .int (gI σ 4))]) hx hb dL_law_848 hl (by decide) rfl (fun ls hl => ?_)
    refine W.widen (k := cells + 4) (n := slots + 24) (by omega) (by omega) ?_
    exact kk (uI σ 4 (nI th)) ρ γ H locs ls (si_thr hI (nI th)) hP hD hS (lv_sub hl [1, 2, 3, 4, 5, 6, 7, 8, 9, 10, 11, 0, 12, 13] rfl)
  refine lv_aload hx hb dL_law_798 (lv_at hl 8 rfl) ?_
  refine lv_iconst (v := 2) hx hb dL_law_800 (by decide) ?_
  refine l_ld6 hx hb hK hP (k := 2) (by decide) (v := gI σ 4) rfl dL_law_801 ?_
  refine lv_istore (lv' := [(17, .int (gI σ 4)), (0, .ref b), (1, .ref ax), (2, .ref (be 0)), (3, .ref (be 1)), (4, .ref (be 2)), (5, .ref (be 3)), (6, .ref (be 4)), (7, .ref (be 5)), (8, .ref (be 6)), (9, .ref (be 7)), (10, .ref (be 8)), (12, .int (nI n)), (15, .int (nI y)), (16, .int (nI t))]) hx hb dL_law_802 hl (by decide) rfl (fun ls hl => ?_)
  refine lv_aload hx hb dL_law_804 (lv_at hl 9 rfl) ?_
  refine lv_iconst (v := 2) hx hb dL_law_806 (by decide) ?_
  refine lv_iconst (v := 1) hx hb dL_law_807 (by decide) ?_
  refine lv_iload hx hb dL_law_808 (lv_at hl 13 rfl) ?_
  refine lv_iload hx hb dL_law_810 (lv_at hl 13 rfl) ?_
  refine lv_iconst (v := 3) hx hb dL_law_812 (by decide) ?_
  refine lv_irem hx hb dL_law_813 (by decide) ?_
  refine W.eq (g2 := F0 m 814 ls [.int (nI (y % 3)), .int (nI y), .int 1, .int 2, .ref (be 6)]) (by rw [show nI y - nI y / 3 * 3 = nI (y % 3) from pk_rem (d := 3) (by omega) (by decide) (by decide)]) ?_
  refine lv_if_ne (tgt := 823) hx hb dL_law_814 (by decide) (fun c_1 => ?_) (fun c_1 => ?_)
  · refine lv_bipush (v := 50) hx hb dL_law_823 (by decide) ?_
    refine lv_irem hx hb dL_law_825 (by decide) ?_
    refine W.eq (g2 := F0 m 826 ls [.int (nI (y % 50)), .int 1, .int 2, .ref (be 6)]) (by rw [show nI y - nI y / 50 * 50 = nI (y % 50) from pk_rem (d := 50) (by omega) (by decide) (by decide)]) ?_
    refine lv_iadd hx hb dL_law_826 ?_
    refine W.eq (g2 := F0 m 827 ls [.int (nI (1 + (y % 50))), .int 2, .ref (be 6)]) (by rw [show (1 : Int32) + nI (y % 50) = nI (1 + (y % 50)) from nI_add 1 _]) ?_
    exact B827 (1 + (y % 50)) H locs ls (by omega) hP hD hS (lv_sub hl [1, 2, 3, 4, 5, 6, 7, 8, 9, 10, 11, 12, 13, 14, 0] rfl)
  · refine lv_sipush (v := 1000) hx hb dL_law_817 (by decide) ?_
    refine lv_goto (tgt := 825) hx hb dL_law_820 (by decide) ?_
    refine lv_irem hx hb dL_law_825 (by decide) ?_
    refine W.eq (g2 := F0 m 826 ls [.int (nI (y % 1000)), .int 1, .int 2, .ref (be 6)]) (by rw [show nI y - nI y / 1000 * 1000 = nI (y % 1000) from pk_rem (d := 1000) (by omega) (by decide) (by decide)]) ?_
    refine lv_iadd hx hb dL_law_826 ?_
    refine W.eq (g2 := F0 m 827 ls [.int (nI (1 + (y % 1000))), .int 2, .ref (be 6)]) (by rw [show (1 : Int32) + nI (y % 1000) = nI (1 + (y % 1000)) from nI_add 1 _]) ?_
    exact B827 (1 + (y % 1000)) H locs ls (by omega) hP hD hS (lv_sub hl [1, 2, 3, 4, 5, 6, 7, 8, 9, 10, 11, 12, 13, 14, 0] rfl)
