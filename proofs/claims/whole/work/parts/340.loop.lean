set_option maxHeartbeats 4000000 in
set_option maxRecDepth 100000 in
theorem law_loop {p : Program} {l : Launch} {e : Env} {s : State} {m : MethodId} {below : List Frame} {meth : Method} {c : Code} {Q : State → Prop} {A : Nat → Prop} {D : va_G} {cO cL cI cJ cZ : ClassId} {b L : Nat} {xs : Nat → Int32} {ax ar : Nat} {ad : Nat → Nat} {bo bx : Nat} {ba : Nat → Nat} (C : LC p l s m meth c A D cO cL cI cJ cZ b L xs)
    (kend : ∀ (H9 : Heap) (locs9 : List Loc) (ls9 : Array Slot) (cells9 slots9 : Nat), cells9 ≤ 637657 → slots9 ≤ 7183133 → va_S A s.heap H9 locs9 → W p l e room_1 s m #[Value.ref b] below meth c H9 locs9 cells9 slots9 Q (F0 m 1284 ls9 [])) :
    ∀ (f n : Nat) (σ : St) (v : Int64) (H : Heap) (locs : List Loc) (ls : Array Slot), 5 * n ≤ L + 4 → L + 5 - 5 * n < f → V n σ → va_P D vwCl (wA ax ar ad cO bo cL bx ba cI cJ cZ σ v) H → va_D A (wA ax ar ad cO bo cL bx ba cI cJ cZ σ v) → va_S A s.heap H locs → lv_has ls 8 [(4, .int (nI (5 * n))), (0, .ref b), (1, .ref ax), (2, .ref bx), (3, .ref bo)] → W p l e room_1 s m #[Value.ref b] below meth c H locs (45 + 4 * n) (644 + 24 * n) Q (F0 m 23 ls []) := by
  obtain ⟨hx, hb, hml, hown, hts, hE, hK, hA, hX, hbl, hbA, hfl, hL, hlocks⟩ := id C
  intro f
  induction f with
  | zero =>
    intro n σ v H locs ls h1 h2
    exact absurd h2 (Nat.not_lt_zero _)
  | succ f ih =>
    intro n σ v H locs ls hn hf hV hP hD hS hl
    refine lv_iload hx hb dL_law_23 (lv_at hl 0 rfl) ?_
    refine lv_aload_n hx hb dL_law_25 rfl (lv_at hl 1 rfl) ?_
    refine va_slen hx hb hX hbl hbA hS dL_law_26 ?_
    refine lv_iconst (v := 5) hx hb dL_law_27 (by decide) ?_
    refine lv_isub hx hb dL_law_28 ?_
    refine lv_icmp_gt (tgt := 1284) hx hb dL_law_29 (by decide) (fun _ => ?_) (fun q => ?_)
    · exact kend H locs ls _ _ (by omega) (by omega) hS
    · have hi : 5 * n + 5 ≤ L := by
        have e5 : (5 : Int32).toInt = 5 := by decide
        have eL : (Int32.ofNat L).toInt = (L : Int) := nI_toInt (n := L) (by omega)
        rw [Int32.lt_iff_toInt_lt, i_sub (by omega) (by omega), eL, e5, nI_toInt (by omega)] at q
        omega
      have step : ∀ (σ9 : St) (v9 : Int64) (H9 : Heap) (locs9 : List Loc) (ls9 : Array Slot), va_P D vwCl (wA ax ar ad cO bo cL bx ba cI cJ cZ σ9 v9) H9 → va_D A (wA ax ar ad cO bo cL bx ba cI cJ cZ σ9 v9) → va_S A s.heap H9 locs9 → V (n + 1) σ9 → lv_has ls9 8 [(4, .int (nI (5 * n))), (0, .ref b), (1, .ref ax), (2, .ref bx), (3, .ref bo)] → W p l e room_1 s m #[Value.ref b] below meth c H9 locs9 (45 + 4 * n + 4) (644 + 24 * n + 24) Q (F0 m 1278 ls9 []) := by
        intro σ9 v9 H9 locs9 ls9 hP hD hS hV hl
        have e5 : nI (5 * n) + 5 = nI (5 * (n + 1)) := nI_ad (5 * n) 5
        refine lv_iinc (v := nI (5 * (n + 1))) (lv' := [(4, .int (nI (5 * (n + 1)))), (0, .ref b), (1, .ref ax), (2, .ref bx), (3, .ref bo)]) hx hb dL_law_1278 hl (k := 0) rfl (by rw [← e5]; rfl) (by decide) rfl (fun ls hl => ?_)
        refine lv_goto (tgt := 23) hx hb dL_law_1281 (by decide) ?_
        exact ih (n + 1) σ9 v9 H9 locs9 ls (by omega) (by omega) hV hP hD hS hl
      have hn9 : n < 2 ^ 30 := by omega
      have hcl : 45 + 4 * n + 4 ≤ 637657 := by omega
      have hsl : 644 + 24 * n + 24 ≤ 7183133 := by omega
      refine lv_aload_n hx hb dL_law_32 rfl (lv_at hl 1 rfl) ?_
      refine lv_iload hx hb dL_law_33 (lv_at hl 0 rfl) ?_
      refine va_sld hx hb hX hbl hbA hS (vp_in_nI (by omega) (by omega)) dL_law_35 ?_
      refine lv_bipush (v := 31) hx hb dL_law_36 (by decide) ?_
      refine lv_iand hx hb dL_law_38 ?_
      obtain ⟨j, hj, ej⟩ := and31 (xs (nI (5 * n)).toNatClampNeg)
      rw [ej]
      clear ej
      rcases (show j = 0 ∨ j = 1 ∨ j = 2 ∨ j = 3 ∨ j = 4 ∨ j = 5 ∨ j = 6 ∨ j = 7 ∨ j = 8 ∨ j = 9 ∨ j = 10 ∨ j = 11 ∨ j = 12 ∨ j = 13 ∨ j = 14 ∨ j = 15 ∨ j = 16 ∨ j = 17 ∨ j = 18 ∨ j = 19 ∨ j = 20 ∨ j = 21 ∨ j = 22 ∨ j = 23 ∨ j = 24 ∨ j = 25 ∨ j = 26 ∨ j = 27 ∨ j = 28 ∨ 29 ≤ j by omega) with rfl | rfl | rfl | rfl | rfl | rfl | rfl | rfl | rfl | rfl | rfl | rfl | rfl | rfl | rfl | rfl | rfl | rfl | rfl | rfl | rfl | rfl | rfl | rfl | rfl | rfl | rfl | rfl | rfl | hj2
      · exact lv_tableIn (off := 129) (tgt := 168) hx hb dL_law_39 (by decide) (by decide) (by decide) (by decide) (c_fetch C hn9 hi hcl hsl hV hP hD hS hl step)
      · exact lv_tableIn (off := 221) (tgt := 260) hx hb dL_law_39 (by decide) (by decide) (by decide) (by decide) (c_pass C hn9 hi hcl hsl hV hP hD hS hl step)
      · exact lv_tableIn (off := 277) (tgt := 316) hx hb dL_law_39 (by decide) (by decide) (by decide) (by decide) (c_pin C hn9 hi hcl hsl hV hP hD hS hl step)
      · exact lv_tableIn (off := 368) (tgt := 407) hx hb dL_law_39 (by decide) (by decide) (by decide) (by decide) (c_drop C hn9 hi hcl hsl hV hP hD hS hl step)
      · exact lv_tableIn (off := 424) (tgt := 463) hx hb dL_law_39 (by decide) (by decide) (by decide) (by decide) (c_purge C hn9 hi hcl hsl hV hP hD hS hl step)
      · exact lv_tableIn (off := 437) (tgt := 476) hx hb dL_law_39 (by decide) (by decide) (by decide) (by decide) (c_setCapacity C hn9 hi hcl hsl hV hP hD hS hl step)
      · exact lv_tableIn (off := 493) (tgt := 532) hx hb dL_law_39 (by decide) (by decide) (by decide) (by decide) (c_setThreshold C hn9 hi hcl hsl hV hP hD hS hl step)
      · exact lv_tableIn (off := 549) (tgt := 588) hx hb dL_law_39 (by decide) (by decide) (by decide) (by decide) (c_has C hn9 hi hcl hsl hV hP hD hS hl step)
      · exact lv_tableIn (off := 612) (tgt := 651) hx hb dL_law_39 (by decide) (by decide) (by decide) (by decide) (c_isOver C hn9 hi hcl hsl hV hP hD hS hl step)
      · exact lv_tableIn (off := 675) (tgt := 714) hx hb dL_law_39 (by decide) (by decide) (by decide) (by decide) (c_sizeOf C hn9 hi hcl hsl hV hP hD hS hl step)
      · exact lv_tableIn (off := 731) (tgt := 770) hx hb dL_law_39 (by decide) (by decide) (by decide) (by decide) (c_frequencyOf C hn9 hi hcl hsl hV hP hD hS hl step)
      · exact lv_tableIn (off := 787) (tgt := 826) hx hb dL_law_39 (by decide) (by decide) (by decide) (by decide) (c_worthOf C hn9 hi hcl hsl hV hP hD hS hl step)
      · exact lv_tableIn (off := 842) (tgt := 881) hx hb dL_law_39 (by decide) (by decide) (by decide) (by decide) (c_endOf C hn9 hi hcl hsl hV hP hD hS hl step)
      · exact lv_tableIn (off := 898) (tgt := 937) hx hb dL_law_39 (by decide) (by decide) (by decide) (by decide) (c_leaving C hn9 hi hcl hsl hV hP hD hS hl step)
      · exact lv_tableIn (off := 954) (tgt := 993) hx hb dL_law_39 (by decide) (by decide) (by decide) (by decide) (c_placeOf C hn9 hi hcl hsl hV hP hD hS hl step)
      · exact lv_tableIn (off := 1010) (tgt := 1049) hx hb dL_law_39 (by decide) (by decide) (by decide) (by decide) (c_endsFirst C hn9 hi hcl hsl hV hP hD hS hl step)
      · exact lv_tableIn (off := 1023) (tgt := 1062) hx hb dL_law_39 (by decide) (by decide) (by decide) (by decide) (c_wouldLeave C hn9 hi hcl hsl hV hP hD hS hl step)
      · exact lv_tableIn (off := 1079) (tgt := 1118) hx hb dL_law_39 (by decide) (by decide) (by decide) (by decide) (c_time C hn9 hi hcl hsl hV hP hD hS hl step)
      · exact lv_tableIn (off := 1092) (tgt := 1131) hx hb dL_law_39 (by decide) (by decide) (by decide) (by decide) (c_clock C hn9 hi hcl hsl hV hP hD hS hl step)
      · exact lv_tableIn (off := 1106) (tgt := 1145) hx hb dL_law_39 (by decide) (by decide) (by decide) (by decide) (c_capacity C hn9 hi hcl hsl hV hP hD hS hl step)
      · exact lv_tableIn (off := 1119) (tgt := 1158) hx hb dL_law_39 (by decide) (by decide) (by decide) (by decide) (c_entries C hn9 hi hcl hsl hV hP hD hS hl step)
      · exact lv_tableIn (off := 1132) (tgt := 1171) hx hb dL_law_39 (by decide) (by decide) (by decide) (by decide) (c_used C hn9 hi hcl hsl hV hP hD hS hl step)
      · exact lv_tableIn (off := 1145) (tgt := 1184) hx hb dL_law_39 (by decide) (by decide) (by decide) (by decide) (c_hits C hn9 hi hcl hsl hV hP hD hS hl step)
      · exact lv_tableIn (off := 1158) (tgt := 1197) hx hb dL_law_39 (by decide) (by decide) (by decide) (by decide) (c_misses C hn9 hi hcl hsl hV hP hD hS hl step)
      · exact lv_tableIn (off := 1171) (tgt := 1210) hx hb dL_law_39 (by decide) (by decide) (by decide) (by decide) (c_bytesHit C hn9 hi hcl hsl hV hP hD hS hl step)
      · exact lv_tableIn (off := 1185) (tgt := 1224) hx hb dL_law_39 (by decide) (by decide) (by decide) (by decide) (c_saved C hn9 hi hcl hsl hV hP hD hS hl step)
      · exact lv_tableIn (off := 1199) (tgt := 1238) hx hb dL_law_39 (by decide) (by decide) (by decide) (by decide) (c_paid C hn9 hi hcl hsl hV hP hD hS hl step)
      · exact lv_tableIn (off := 1213) (tgt := 1252) hx hb dL_law_39 (by decide) (by decide) (by decide) (by decide) (c_left C hn9 hi hcl hsl hV hP hD hS hl step)
      · exact lv_tableIn (off := 1226) (tgt := 1265) hx hb dL_law_39 (by decide) (by decide) (by decide) (by decide) (c_removedOver C hn9 hi hcl hsl hV hP hD hS hl step)
      · refine lv_tableOut (tgt := 1278) hx hb dL_law_39 (Or.inr ?_) (by decide) ?_
        · rw [nI_toInt (by omega)]
          omega
        · exact W.widen (by omega) (by omega) (step σ v H locs ls hP hD hS (hV.up (Nat.le_succ n)) hl)
