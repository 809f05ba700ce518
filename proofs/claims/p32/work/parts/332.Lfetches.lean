set_option maxHeartbeats 4000000 in
set_option maxRecDepth 100000 in
theorem k_L_fetches (l : Launch) (D : va_G) (be : Nat → Nat) (cI cJ : ClassId) (wr : va_W) (ty : List (ClassId × FieldType)) (sz : Nat) (σ : St) (ρ : Nat → Int32) (γ : Nat) {k : Nat} (z pr lf : Int32) (hk : k < 32) (n8 : Nat) (hV9 : V n8 σ) (hn8 : n8 < 2 ^ 30) (hz9 : 1 ≤ z.toInt ∧ z.toInt ≤ 1000) (L9 : List Nat) (hR9 : Row ρ γ L9) (hS9 : SR σ (inO σ) L9) (h8 : -1 ≤ (gS σ 8 k).toInt ∧ (gS σ 8 k).toInt ≤ 1073741824) (h1 : 0 ≤ (gI σ 1).toInt ∧ (gI σ 1).toInt ≤ 1073741824) : Met l yL_fetches wsL_fetches ({ frames := 4, cells := 0, slots := 0, locals := 100 } : Room) (va_Pc [.ref (be 0), .ref (be 1), .ref (be 2), .ref (be 3), .ref (be 4), .ref (be 5), .ref (be 6), .ref (be 7), .ref (be 8), .int (nI k), .int z, .int pr, .int lf] (xPre D (tX cI cJ ty) mE (lX be cI cJ wr) (σ, ρ, γ) sz)) (va_Qi (fun (r : Int32) (u : LSt) => r = (cFetch σ k z pr lf).1 ∧ u.1 = (cFetch σ k z pr lf).2 ∧ OK u.1 u.2.1 u.2.2) (xB D (tX cI cJ ty) (lX be cI cJ wr) (va_A (lX be cI cJ wr (σ, ρ, γ)) sz)) (va_A (lX be cI cJ wr (σ, ρ, γ)) sz)) 0 0 (va_A (lX be cI cJ wr (σ, ρ, γ)) sz) := by
  refine xOpen (w := (lX be cI cJ wr)) (σ := (σ, ρ, γ)) (cc := cL_fetches) (maxL := 15) (ret := some .int) (QQ := fun A => va_Qi (fun (r : Int32) (u : LSt) => r = (cFetch σ k z pr lf).1 ∧ u.1 = (cFetch σ k z pr lf).2 ∧ OK u.1 u.2.1 u.2.2) (xB D (tX cI cJ ty) (lX be cI cJ wr) A) A) (by decide) rfl (Nat.le_of_ble_eq_true rfl) ?_
  intro p e s m below meth c A hx hb hr hml hown hts hlocks hname hK hE hA hP hD hS ls hl
  have hl : lv_has ls 15 [(0, .ref (be 0)), (1, .ref (be 1)), (2, .ref (be 2)), (3, .ref (be 3)), (4, .ref (be 4)), (5, .ref (be 5)), (6, .ref (be 6)), (7, .ref (be 7)), (8, .ref (be 8)), (9, .int (nI k)), (10, .int z), (11, .int pr), (12, .int lf)] := hl
  have hown : s.vm.findClass RL = some m.cls := hown
  generalize hH : s.heap = H at hP
  have hS : va_S A s.heap H [] := by rw [← hH]; exact va_S.rf
  generalize hlo : ([] : List Loc) = locs at hS
  have hO9 := hV9.ord
  have hz0 : ¬ z = 0 := fun q => by rw [q, i0] at hz9; omega
  have hSz : Sz σ := hV9.1
  have B307 : ∀ (X : St) (ρ1 : Nat → Int32) (γ1 : Nat) (L1 : List Nat) (H : Heap) (locs : List Loc) (ls : Array Slot), Row ρ1 γ1 L1 → SR X (inO X) L1 → V n8 X → cFetch σ k z pr lf = (1, cFill X k z pr lf) → va_P D vwCl (lX be cI cJ wr (X, ρ1, γ1)) H → va_D A (lX be cI cJ wr (X, ρ1, γ1)) → va_S A s.heap H locs → lv_has ls 15 [(0, .ref (be 0)), (1, .ref (be 1)), (2, .ref (be 2)), (3, .ref (be 3)), (4, .ref (be 4)), (5, .ref (be 5)), (6, .ref (be 6)), (7, .ref (be 7)), (8, .ref (be 8)), (9, .int (nI k)), (10, .int z), (11, .int pr), (12, .int lf)] → W p l e (headSpec wsL_fetches ({ frames := 4, cells := 0, slots := 0, locals := 100 } : Room)).room s m [.ref (be 0), .ref (be 1), .ref (be 2), .ref (be 3), .ref (be 4), .ref (be 5), .ref (be 6), .ref (be 7), .ref (be 8), .int (nI k), .int z, .int pr, .int lf].toArray below meth c H locs 0 0 (MQ below (va_Qi (fun (r : Int32) (u : LSt) => r = (cFetch σ k z pr lf).1 ∧ u.1 = (cFetch σ k z pr lf).2 ∧ OK u.1 u.2.1 u.2.2) (xB D (tX cI cJ ty) (lX be cI cJ wr) A) A) [.ref (be 0), .ref (be 1), .ref (be 2), .ref (be 3), .ref (be 4), .ref (be 5), .ref (be 6), .ref (be 7), .ref (be 8), .int (nI k), .int z, .int pr, .int lf].toArray s 0 0 A) (F0 m 307 ls []) := by
    intro X ρ1 γ1 L1 H locs ls hR1 hS1 hVX hF hP hD hS hl
    have h5 : 0 ≤ (gL (lFill X k z lf) 5).toInt ∧ (gL (lFill X k z lf) 5).toInt ≤ (n8 : Int) := hVX.2.2.2.1
    have h7 : ∀ x, x ∈ L1 → (gT (lFill X k z lf) 7 x).toInt ≤ (gL (lFill X k z lf) 5).toInt := fun x hx => hVX.2.2.1 x (sr_lt hS1 hx) (inO_B ((hS1.1 x).mp hx).2).1
    have hS2 : SR (lFill X k z lf) (inO X) L1 := hS1
    obtain ⟨hc1, hc2⟩ := sr_cnt (k := k) (pr := pr) hS2 hn8 h5 h7
    refine lv_aload_n hx hb dL_fetches_307 rfl (lv_at hl 0 rfl) ?_
    refine lv_iload hx hb dL_fetches_308 (lv_at hl 9 rfl) ?_
    refine lv_iload hx hb dL_fetches_310 (lv_at hl 10 rfl) ?_
    refine l_st0 (v := z) hx hb hK hP hD hS hk dL_fetches_312 (fun H locs hP hD hS => ?_)
    refine lv_aload_n hx hb dL_fetches_313 rfl (lv_at hl 1 rfl) ?_
    refine lv_iload hx hb dL_fetches_314 (lv_at hl 9 rfl) ?_
    refine lv_iconst (v := 1) hx hb dL_fetches_316 (by decide) ?_
    refine l_st1 (v := 1) hx hb hK hP hD hS hk dL_fetches_317 (fun H locs hP hD hS => ?_)
    refine lv_aload_n hx hb dL_fetches_318 rfl (lv_at hl 2 rfl) ?_
    refine lv_iload hx hb dL_fetches_319 (lv_at hl 9 rfl) ?_
    refine lv_aload hx hb dL_fetches_321 (lv_at hl 6 rfl) ?_
    refine lv_iconst (v := 0) hx hb dL_fetches_323 (by decide) ?_
    refine l_ld6 hx hb hK hP (k := 0) (by decide) (v := gI X 1) rfl dL_fetches_324 ?_
    refine lv_iload hx hb dL_fetches_325 (lv_at hl 12 rfl) ?_
    refine lv_iadd hx hb dL_fetches_327 ?_
    refine l_st2 (v := (gI X 1) + lf) hx hb hK hP hD hS hk dL_fetches_328 (fun H locs hP hD hS => ?_)
    refine lv_aload_n hx hb dL_fetches_329 rfl (lv_at hl 3 rfl) ?_
    refine lv_iload hx hb dL_fetches_330 (lv_at hl 9 rfl) ?_
    refine lv_iconst (v := 0) hx hb dL_fetches_332 (by decide) ?_
    refine l_st3 (b9 := false) hx hb hK hP hD hS hk dL_fetches_333 (fun H locs hP hD hS => ?_)
    have hP : va_P D vwCl (lX be cI cJ wr (lFill X k z lf, ρ1, γ1)) H := hP
    have hD : va_D A (lX be cI cJ wr (lFill X k z lf, ρ1, γ1)) := hD
    refine lv_aload_n hx hb dL_fetches_334 rfl (lv_at hl 0 rfl) ?_
    refine lv_aload_n hx hb dL_fetches_335 rfl (lv_at hl 1 rfl) ?_
    refine lv_aload hx hb dL_fetches_336 (lv_at hl 5 rfl) ?_
    refine lv_aload hx hb dL_fetches_338 (lv_at hl 6 rfl) ?_
    refine lv_aload hx hb dL_fetches_340 (lv_at hl 7 rfl) ?_
    refine lv_aload hx hb dL_fetches_342 (lv_at hl 8 rfl) ?_
    refine lv_iload hx hb dL_fetches_344 (lv_at hl 9 rfl) ?_
    refine lv_iload hx hb dL_fetches_346 (lv_at hl 11 rfl) ?_
    refine x_callv (va_runS (As := [.ref (be 0), .ref (be 1), .ref (be 5), .ref (be 6), .ref (be 7), .ref (be 8), .int (nI k), .int pr]) (rest := []) ⟨hx, hb, hml, hown, hts⟩ (k_L_counts l D be cI cJ wr ty H.size (lFill X k z lf) ρ1 γ1 pr hk L1 hR1 (sr_len hS1) (fun x hx => sr_lt hS1 hx) (by rw [lFill_uF]; exact hz0)) (va_cwS 8 hts gL_fetches_L_counts rfl rfl rfl (by decide +kernel) ⟨Nat.le_of_ble_eq_true rfl, Nat.le_of_ble_eq_true rfl⟩) (xPreS mE_ok trivial hK hA hP hD hS) rfl rfl hl.1 rfl (lv_room (Nat.le_of_ble_eq_true rfl)) dL_fetches_348 ⟨Nat.le_of_ble_eq_true rfl, Nat.le_of_ble_eq_true rfl⟩) hD hS hA (fun u H locs hp hP hD hS => ?_)
    obtain ⟨σ1, ρ1, γ1⟩ := u
    obtain ⟨hu1, hR1⟩ := hp
    have hu1 : σ1 = lSetW (lFill X k z lf) k pr := hu1
    rw [hu1] at hP hD
    have hR1 : Row ρ1 γ1 (wo k L1) := hR1
    refine lv_aload hx hb dL_fetches_351 (lv_at hl 5 rfl) ?_
    refine lv_aload hx hb dL_fetches_353 (lv_at hl 6 rfl) ?_
    refine lv_aload hx hb dL_fetches_355 (lv_at hl 7 rfl) ?_
    refine lv_iload hx hb dL_fetches_357 (lv_at hl 9 rfl) ?_
    refine x_callv (va_runS (As := [.ref (be 5), .ref (be 6), .ref (be 7), .int (nI k)]) (rest := []) ⟨hx, hb, hml, hown, hts⟩ (k_L_putIn l D be cI cJ wr ty H.size (lSetW (lFill X k z lf) k pr) ρ1 γ1 hk (wo k L1) (fun x => inO X x && decide (x ≠ k)) hR1 hc1 hc2) (va_cwS 4 hts gL_fetches_L_putIn rfl rfl rfl (by decide +kernel) ⟨Nat.le_of_ble_eq_true rfl, Nat.le_of_ble_eq_true rfl⟩) (xPreS mE_ok trivial hK hA hP hD hS) rfl rfl hl.1 rfl (lv_room (Nat.le_of_ble_eq_true rfl)) dL_fetches_359 ⟨Nat.le_of_ble_eq_true rfl, Nat.le_of_ble_eq_true rfl⟩) hD hS hA (fun u H locs hp hP hD hS => ?_)
    obtain ⟨σ2, ρ2, γ2⟩ := u
    obtain ⟨hu2, L2, hR2, hQ2⟩ := hp
    have hu2 : σ2 = lSetW (lFill X k z lf) k pr := hu2
    rw [hu2] at hP hD
    have hR2 : Row ρ2 γ2 L2 := hR2
    refine lv_iconst (v := 1) hx hb dL_fetches_362 (by decide) ?_
    exact x_iret hx hb hr hlocks hK ((lSetW (lFill X k z lf) k pr, ρ2, γ2) : LSt) hP hD hS (⟨by rw [hF], by rw [hF]; exact lFill_c X k z pr lf hz9.1, _, hR2, lFill_ok hQ2⟩) dL_fetches_363
  have B233 : ∀ (ρ1 : Nat → Int32) (γ1 : Nat) (L1 : List Nat) (H : Heap) (locs : List Loc) (ls : Array Slot), Row ρ1 γ1 L1 → SR (mMiss σ k pr) (inO (mMiss σ k pr)) L1 → cFetch σ k z pr lf = (if (cRoom (mMiss σ k pr) z).1 then (1, cFill (cRoom (mMiss σ k pr) z).2 k z pr lf) else (2, (cRoom (mMiss σ k pr) z).2)) → va_P D vwCl (lX be cI cJ wr (mMiss σ k pr, ρ1, γ1)) H → va_D A (lX be cI cJ wr (mMiss σ k pr, ρ1, γ1)) → va_S A s.heap H locs → lv_has ls 15 [(0, .ref (be 0)), (1, .ref (be 1)), (2, .ref (be 2)), (3, .ref (be 3)), (4, .ref (be 4)), (5, .ref (be 5)), (6, .ref (be 6)), (7, .ref (be 7)), (8, .ref (be 8)), (9, .int (nI k)), (10, .int z), (11, .int pr), (12, .int lf)] → W p l e (headSpec wsL_fetches ({ frames := 4, cells := 0, slots := 0, locals := 100 } : Room)).room s m [.ref (be 0), .ref (be 1), .ref (be 2), .ref (be 3), .ref (be 4), .ref (be 5), .ref (be 6), .ref (be 7), .ref (be 8), .int (nI k), .int z, .int pr, .int lf].toArray below meth c H locs 0 0 (MQ below (va_Qi (fun (r : Int32) (u : LSt) => r = (cFetch σ k z pr lf).1 ∧ u.1 = (cFetch σ k z pr lf).2 ∧ OK u.1 u.2.1 u.2.2) (xB D (tX cI cJ ty) (lX be cI cJ wr) A) A) [.ref (be 0), .ref (be 1), .ref (be 2), .ref (be 3), .ref (be 4), .ref (be 5), .ref (be 6), .ref (be 7), .ref (be 8), .int (nI k), .int z, .int pr, .int lf].toArray s 0 0 A) (F0 m 233 ls []) := by
    intro ρ1 γ1 L1 H locs ls hR1 hS1 hF hP hD hS hl
    have hVM : V n8 (mMiss σ k pr) := mMiss_V hV9 k pr
    refine lv_aload_n hx hb dL_fetches_233 rfl (lv_at hl 0 rfl) ?_
    refine x_calli (va_runS (As := [.ref (be 0)]) (rest := []) ⟨hx, hb, hml, hown, hts⟩ (k_L_used l D be cI cJ wr ty H.size (mMiss σ k pr) ρ1 γ1) (va_cwS 1 hts gL_fetches_L_used rfl rfl rfl (by decide +kernel) ⟨Nat.le_of_ble_eq_true rfl, Nat.le_of_ble_eq_true rfl⟩) (xPreS mE_ok trivial hK hA hP hD hS) rfl rfl hl.1 rfl (lv_room (Nat.le_of_ble_eq_true rfl)) dL_fetches_234 ⟨Nat.le_of_ble_eq_true rfl, Nat.le_of_ble_eq_true rfl⟩) hD hS hA (fun r u H locs hp hP hD hS => ?_)
    obtain ⟨rfl, hu9⟩ := hp
    rw [hu9] at hP hD
    refine lv_iload hx hb dL_fetches_237 (lv_at hl 10 rfl) ?_
    refine lv_iadd hx hb dL_fetches_239 ?_
    refine lv_aload hx hb dL_fetches_240 (lv_at hl 6 rfl) ?_
    refine lv_iconst (v := 1) hx hb dL_fetches_242 (by decide) ?_
    refine l_ld6 hx hb hK hP (k := 1) (by decide) (v := gI (mMiss σ k pr) 3) rfl dL_fetches_243 ?_
    refine x_icmp_le (tgt := 307) hx hb dL_fetches_244 (by decide) (fun c_3 => ?_) (fun c_3 => ?_)
    · exact B307 (mMiss σ k pr) ρ1 γ1 L1 H locs ls hR1 hS1 hVM (by rw [hF, room_no hVM hz9 c_3]; rfl) hP hD hS (lv_sub hl [0, 1, 2, 3, 4, 5, 6, 7, 8, 9, 10, 11, 12] rfl)
    · refine lv_aload_n hx hb dL_fetches_247 rfl (lv_at hl 0 rfl) ?_
      refine lv_aload_n hx hb dL_fetches_248 rfl (lv_at hl 2 rfl) ?_
      refine lv_aload hx hb dL_fetches_249 (lv_at hl 5 rfl) ?_
      refine lv_aload hx hb dL_fetches_251 (lv_at hl 6 rfl) ?_
      refine x_calli (va_runS (As := [.ref (be 0), .ref (be 2), .ref (be 5), .ref (be 6)]) (rest := []) ⟨hx, hb, hml, hown, hts⟩ (k_L_clears l D be cI cJ wr ty H.size (mMiss σ k pr) ρ1 γ1 L1 hR1 hS1 hVM.1) (va_cwS 4 hts gL_fetches_L_clears rfl rfl rfl (by decide +kernel) ⟨Nat.le_of_ble_eq_true rfl, Nat.le_of_ble_eq_true rfl⟩) (xPreS mE_ok trivial hK hA hP hD hS) rfl rfl hl.1 rfl (lv_room (Nat.le_of_ble_eq_true rfl)) dL_fetches_253 ⟨Nat.le_of_ble_eq_true rfl, Nat.le_of_ble_eq_true rfl⟩) hD hS hA (fun r u H locs hp hP hD hS => ?_)
      obtain ⟨σ2, ρ2, γ2⟩ := u
      obtain ⟨-, hu2, hO2⟩ := hp
      have hu2 : σ2 = rmO (mMiss σ k pr) := hu2
      have hO2 : OK σ2 ρ2 γ2 := hO2
      rw [hu2] at hP hD hO2
      refine lv_pop hx hb dL_fetches_256 rfl ?_
      refine lv_aload_n hx hb dL_fetches_257 rfl (lv_at hl 0 rfl) ?_
      refine lv_aload_n hx hb dL_fetches_258 rfl (lv_at hl 2 rfl) ?_
      refine lv_aload_n hx hb dL_fetches_259 rfl (lv_at hl 3 rfl) ?_
      refine lv_aload hx hb dL_fetches_260 (lv_at hl 6 rfl) ?_
      refine lv_iconst (v := 1) hx hb dL_fetches_262 (by decide) ?_
      refine x_calli (va_runS (As := [.ref (be 0), .ref (be 2), .ref (be 3), .ref (be 6), .int 1]) (rest := []) ⟨hx, hb, hml, hown, hts⟩ (k_L_pinned l D be cI cJ wr ty H.size (rmO (mMiss σ k pr)) ρ2 γ2 true) (va_cwS 5 hts gL_fetches_L_pinned rfl rfl rfl (by decide +kernel) ⟨Nat.le_of_ble_eq_true rfl, Nat.le_of_ble_eq_true rfl⟩) (xPreS mE_ok trivial hK hA hP hD hS) rfl rfl hl.1 rfl (lv_room (Nat.le_of_ble_eq_true rfl)) dL_fetches_263 ⟨Nat.le_of_ble_eq_true rfl, Nat.le_of_ble_eq_true rfl⟩) hD hS hA (fun r u H locs hp hP hD hS => ?_)
      obtain ⟨rfl, hu9⟩ := hp
      rw [hu9] at hP hD
      refine lv_iload hx hb dL_fetches_266 (lv_at hl 10 rfl) ?_
      refine lv_iadd hx hb dL_fetches_268 ?_
      refine lv_aload hx hb dL_fetches_269 (lv_at hl 6 rfl) ?_
      refine lv_iconst (v := 1) hx hb dL_fetches_271 (by decide) ?_
      refine l_ld6 hx hb hK hP (k := 1) (by decide) (v := gI (rmO (mMiss σ k pr)) 3) rfl dL_fetches_272 ?_
      refine x_icmp_le (tgt := 278) hx hb dL_fetches_273 (by decide) (fun c_4 => ?_) (fun c_4 => ?_)
      · obtain ⟨N, τ, h0, hRun, hroom⟩ := (room_yes hVM hz9 c_3).2 c_4
        rw [← h0] at hP hD hO2
        have loop : ∀ (n : Nat) (j9 : Nat) (ρ3 : Nat → Int32) (γ3 : Nat) (ls : Array Slot) (H : Heap) (locs : List Loc), N - j9 < n → j9 ≤ N → OK (τ j9) ρ3 γ3 → V n8 (τ j9) → va_P D vwCl (lX be cI cJ wr (τ j9, ρ3, γ3)) H → va_D A (lX be cI cJ wr (τ j9, ρ3, γ3)) → va_S A s.heap H locs → lv_has ls 15 [(0, .ref (be 0)), (1, .ref (be 1)), (2, .ref (be 2)), (3, .ref (be 3)), (4, .ref (be 4)), (5, .ref (be 5)), (6, .ref (be 6)), (7, .ref (be 7)), (8, .ref (be 8)), (9, .int (nI k)), (10, .int z), (11, .int pr), (12, .int lf)] → W p l e (headSpec wsL_fetches ({ frames := 4, cells := 0, slots := 0, locals := 100 } : Room)).room s m [.ref (be 0), .ref (be 1), .ref (be 2), .ref (be 3), .ref (be 4), .ref (be 5), .ref (be 6), .ref (be 7), .ref (be 8), .int (nI k), .int z, .int pr, .int lf].toArray below meth c H locs 0 0 (MQ below (va_Qi (fun (r : Int32) (u : LSt) => r = (cFetch σ k z pr lf).1 ∧ u.1 = (cFetch σ k z pr lf).2 ∧ OK u.1 u.2.1 u.2.2) (xB D (tX cI cJ ty) (lX be cI cJ wr) A) A) [.ref (be 0), .ref (be 1), .ref (be 2), .ref (be 3), .ref (be 4), .ref (be 5), .ref (be 6), .ref (be 7), .ref (be 8), .int (nI k), .int z, .int pr, .int lf].toArray s 0 0 A) (F0 m 278 ls []) := by
          intro n
          induction n with
          | zero =>
            intro j9 ρ3 γ3 ls H locs h9
            exact absurd h9 (Nat.not_lt_zero _)
          | succ n ih =>
            intro j9 ρ3 γ3 ls H locs hn9 hj hO3 hV3 hP hD hS hl
            obtain ⟨L4, hR4, hS4⟩ := hO3
            refine lv_aload_n hx hb dL_fetches_278 rfl (lv_at hl 0 rfl) ?_
            refine x_calli (va_runS (As := [.ref (be 0)]) (rest := []) ⟨hx, hb, hml, hown, hts⟩ (k_L_used l D be cI cJ wr ty H.size (τ j9) ρ3 γ3) (va_cwS 1 hts gL_fetches_L_used rfl rfl rfl (by decide +kernel) ⟨Nat.le_of_ble_eq_true rfl, Nat.le_of_ble_eq_true rfl⟩) (xPreS mE_ok trivial hK hA hP hD hS) rfl rfl hl.1 rfl (lv_room (Nat.le_of_ble_eq_true rfl)) dL_fetches_279 ⟨Nat.le_of_ble_eq_true rfl, Nat.le_of_ble_eq_true rfl⟩) hD hS hA (fun r u H locs hp hP hD hS => ?_)
            obtain ⟨rfl, hu9⟩ := hp
            rw [hu9] at hP hD
            refine lv_iload hx hb dL_fetches_282 (lv_at hl 10 rfl) ?_
            refine lv_iadd hx hb dL_fetches_284 ?_
            refine lv_aload hx hb dL_fetches_285 (lv_at hl 6 rfl) ?_
            refine lv_iconst (v := 1) hx hb dL_fetches_287 (by decide) ?_
            refine l_ld6 hx hb hK hP (k := 1) (by decide) (v := gI (τ j9) 3) rfl dL_fetches_288 ?_
            refine x_icmp_le (tgt := 307) hx hb dL_fetches_289 (by decide) (fun c_5 => ?_) (fun c_5 => ?_)
            · have hjN : j9 = N := by
                rcases Nat.lt_or_ge j9 N with q | q
                · exact absurd (hRun.1 j9 q).1 c_5
                · omega
              subst hjN
              exact B307 (τ j9) ρ3 γ3 L4 H locs ls hR4 hS4 hV3 (by rw [hF, hroom]; rfl) hP hD hS (lv_sub hl [0, 1, 2, 3, 4, 5, 6, 7, 8, 9, 10, 11, 12] rfl)
            · have hlt : j9 < N := by
                rcases Nat.lt_or_ge j9 N with q | q
                · exact q
                · have hjN : j9 = N := by omega
                  rw [hjN] at c_5
                  exact absurd c_5 hRun.2
              obtain ⟨-, k9, hk9, hat, hst⟩ := hRun.1 j9 hlt
              have h04 : L4[0]? = some k9 := by rw [← row_0 hV3.ord hS4, ← at_0 hV3.ord]; exact hat
              refine lv_aload_n hx hb dL_fetches_292 rfl (lv_at hl 0 rfl) ?_
              refine lv_aload hx hb dL_fetches_293 (lv_at hl 5 rfl) ?_
              refine lv_aload hx hb dL_fetches_295 (lv_at hl 6 rfl) ?_
              refine lv_aload hx hb dL_fetches_297 (lv_at hl 7 rfl) ?_
              refine lv_aload hx hb dL_fetches_299 (lv_at hl 8 rfl) ?_
              refine x_callv (va_runS (As := [.ref (be 0), .ref (be 5), .ref (be 6), .ref (be 7), .ref (be 8)]) (rest := []) ⟨hx, hb, hml, hown, hts⟩ (k_L_leaves l D be cI cJ wr ty H.size (τ j9) ρ3 γ3 hk9 L4 hR4 (sr_len hS4) (fun x hx => sr_lt hS4 hx) h04) (va_cwS 5 hts gL_fetches_L_leaves rfl rfl rfl (by decide +kernel) ⟨Nat.le_of_ble_eq_true rfl, Nat.le_of_ble_eq_true rfl⟩) (xPreS mE_ok trivial hK hA hP hD hS) rfl rfl hl.1 rfl (lv_room (Nat.le_of_ble_eq_true rfl)) dL_fetches_301 ⟨Nat.le_of_ble_eq_true rfl, Nat.le_of_ble_eq_true rfl⟩) hD hS hA (fun u H locs hp hP hD hS => ?_)
              obtain ⟨σ5, ρ5, γ5⟩ := u
              obtain ⟨hu5, hR5⟩ := hp
              have hu5 : σ5 = mLv1 (τ j9) k9 := hu5
              rw [hu5, ← hst] at hP hD
              have hR5 : Row ρ5 γ5 (wo k9 L4) := hR5
              refine lv_goto (tgt := 278) hx hb dL_fetches_304 (by decide) ?_
              exact ih (j9 + 1) ρ5 γ5 ls H locs (by omega) (by omega) ⟨_, hR5, by rw [hst]; exact sr_rm hS4 (fun _ _ => rfl) (fun _ _ => rfl)⟩ (by rw [hst]; exact mLv1_V hV3 k9) hP hD hS (lv_sub hl [0, 1, 2, 3, 4, 5, 6, 7, 8, 9, 10, 11, 12] rfl)
        exact loop (N + 1) 0 ρ2 γ2 _ _ _ (by omega) (Nat.zero_le _) hO2 (by rw [h0]; exact rmO_V hVM) hP hD hS (lv_sub hl [0, 1, 2, 3, 4, 5, 6, 7, 8, 9, 10, 11, 12] rfl)
      · refine lv_iconst (v := 2) hx hb dL_fetches_276 (by decide) ?_
        exact x_iret hx hb hr hlocks hK ((rmO (mMiss σ k pr), ρ2, γ2) : LSt) hP hD hS (⟨by rw [hF, (room_yes hVM hz9 c_3).1 c_4]; rfl, by rw [hF, (room_yes hVM hz9 c_3).1 c_4]; rfl, hO2⟩) dL_fetches_277
  have B195 : ∀ (ρ1 : Nat → Int32) (γ1 : Nat) (H : Heap) (locs : List Loc) (ls : Array Slot), (gB σ 1 k && !ended σ k && decide (gS σ 3 k = z)) = false → Row ρ1 γ1 (wo k L9) → va_P D vwCl (lX be cI cJ wr (uB (uI (uL (uI σ 7 (gI σ 7 + 1)) 10 (gL σ 10 + pr.toInt64)) 12 (gI σ 12 + (if ovr σ k then 1 else 0))) 1 k false, ρ1, γ1)) H → va_D A (lX be cI cJ wr (uB (uI (uL (uI σ 7 (gI σ 7 + 1)) 10 (gL σ 10 + pr.toInt64)) 12 (gI σ 12 + (if ovr σ k then 1 else 0))) 1 k false, ρ1, γ1)) → va_S A s.heap H locs → lv_has ls 15 [(0, .ref (be 0)), (1, .ref (be 1)), (2, .ref (be 2)), (3, .ref (be 3)), (4, .ref (be 4)), (5, .ref (be 5)), (6, .ref (be 6)), (7, .ref (be 7)), (8, .ref (be 8)), (9, .int (nI k)), (10, .int z), (11, .int pr), (12, .int lf)] → W p l e (headSpec wsL_fetches ({ frames := 4, cells := 0, slots := 0, locals := 100 } : Room)).room s m [.ref (be 0), .ref (be 1), .ref (be 2), .ref (be 3), .ref (be 4), .ref (be 5), .ref (be 6), .ref (be 7), .ref (be 8), .int (nI k), .int z, .int pr, .int lf].toArray below meth c H locs 0 0 (MQ below (va_Qi (fun (r : Int32) (u : LSt) => r = (cFetch σ k z pr lf).1 ∧ u.1 = (cFetch σ k z pr lf).2 ∧ OK u.1 u.2.1 u.2.2) (xB D (tX cI cJ ty) (lX be cI cJ wr) A) A) [.ref (be 0), .ref (be 1), .ref (be 2), .ref (be 3), .ref (be 4), .ref (be 5), .ref (be 6), .ref (be 7), .ref (be 8), .int (nI k), .int z, .int pr, .int lf].toArray s 0 0 A) (F0 m 195 ls [.int (bI (cLate σ k))]) := by
    intro ρ1 γ1 H locs ls hh hR1 hP hD hS hl
    refine lv_istore (lv' := [(14, .int (bI (cLate σ k))), (0, .ref (be 0)), (1, .ref (be 1)), (2, .ref (be 2)), (3, .ref (be 3)), (4, .ref (be 4)), (5, .ref (be 5)), (6, .ref (be 6)), (7, .ref (be 7)), (8, .ref (be 8)), (9, .int (nI k)), (10, .int z), (11, .int pr), (12, .int lf)]) hx hb dL_fetches_195 hl (by decide) rfl (fun ls hl => ?_)
    refine lv_aload hx hb dL_fetches_197 (lv_at hl 5 rfl) ?_
    refine lv_iload hx hb dL_fetches_199 (lv_at hl 10 rfl) ?_
    refine lv_aload hx hb dL_fetches_201 (lv_at hl 7 rfl) ?_
    refine lv_iconst (v := 0) hx hb dL_fetches_203 (by decide) ?_
    refine l_ld6 hx hb hK hP (k := 0) (by decide) (v := gI σ 1) rfl dL_fetches_204 ?_
    refine lv_iconst (v := 1) hx hb dL_fetches_205 (by decide) ?_
    refine lv_iadd hx hb dL_fetches_206 ?_
    refine l_st4 (v := gI σ 1) hx hb hK hP hD hS hk dL_fetches_207 (fun H locs hP hD hS => ?_)
    rw [miss_eq] at hP hD
    refine lv_iload hx hb dL_fetches_208 (lv_at hl 11 rfl) ?_
    refine lv_aload hx hb dL_fetches_210 (lv_at hl 7 rfl) ?_
    refine lv_iconst (v := 1) hx hb dL_fetches_212 (by decide) ?_
    refine l_ld6 hx hb hK hP (k := 1) (by decide) (v := gI (mMiss σ k pr) 3) rfl dL_fetches_213 ?_
    refine lv_icmp_gt (tgt := 231) hx hb dL_fetches_214 (by decide) (fun c_6 => ?_) (fun c_6 => ?_)
    · refine lv_iconst (v := 2) hx hb dL_fetches_231 (by decide) ?_
      exact x_iret hx hb hr hlocks hK ((mMiss σ k pr, ρ1, γ1) : LSt) hP hD hS (⟨by rw [cf_miss hh, if_pos c_6], by rw [cf_miss hh, if_pos c_6], _, hR1, miss_sr hS9⟩) dL_fetches_232
    · refine lv_iload hx hb dL_fetches_217 (lv_at hl 11 rfl) ?_
      refine lv_aload hx hb dL_fetches_219 (lv_at hl 7 rfl) ?_
      refine lv_iconst (v := 2) hx hb dL_fetches_221 (by decide) ?_
      refine l_ld6 hx hb hK hP (k := 2) (by decide) (v := gI (mMiss σ k pr) 4) rfl dL_fetches_222 ?_
      refine x_icmp_le (tgt := 233) hx hb dL_fetches_223 (by decide) (fun c_7 => ?_) (fun c_7 => ?_)
      · exact B233 ρ1 γ1 (wo k L9) H locs ls hR1 (miss_sr hS9) (by rw [cf_miss hh, if_neg c_6, if_neg (by simp [c_7])]) hP hD hS (lv_sub hl [1, 2, 3, 4, 5, 6, 7, 8, 9, 10, 11, 12, 13] rfl)
      · refine lv_iload hx hb dL_fetches_226 (lv_at hl 0 rfl) ?_
        refine x_ifne (tgt := 233) hx hb dL_fetches_228 (by decide) (fun c_8 => ?_) (fun c_8 => ?_)
        · exact B233 ρ1 γ1 (wo k L9) H locs ls hR1 (miss_sr hS9) (by rw [cf_miss hh, if_neg c_6, if_neg (by simp [c_8])]) hP hD hS (lv_sub hl [1, 2, 3, 4, 5, 6, 7, 8, 9, 10, 11, 12, 13] rfl)
        · refine lv_iconst (v := 2) hx hb dL_fetches_231 (by decide) ?_
          exact x_iret hx hb hr hlocks hK ((mMiss σ k pr, ρ1, γ1) : LSt) hP hD hS (⟨by rw [cf_miss hh, if_neg c_6, if_pos (by simp [c_7, c_8])], by rw [cf_miss hh, if_neg c_6, if_pos (by simp [c_7, c_8])], _, hR1, miss_sr hS9⟩) dL_fetches_232
  have B153 : ∀ (H : Heap) (locs : List Loc) (ls : Array Slot), (gB σ 1 k && !ended σ k && decide (gS σ 3 k = z)) = false → va_P D vwCl (lX be cI cJ wr (uL (uI σ 7 (gI σ 7 + 1)) 10 (gL σ 10 + pr.toInt64), ρ, γ)) H → va_D A (lX be cI cJ wr (uL (uI σ 7 (gI σ 7 + 1)) 10 (gL σ 10 + pr.toInt64), ρ, γ)) → va_S A s.heap H locs → lv_has ls 15 [(0, .ref (be 0)), (1, .ref (be 1)), (2, .ref (be 2)), (3, .ref (be 3)), (4, .ref (be 4)), (5, .ref (be 5)), (6, .ref (be 6)), (7, .ref (be 7)), (8, .ref (be 8)), (9, .int (nI k)), (10, .int z), (11, .int pr), (12, .int lf)] → W p l e (headSpec wsL_fetches ({ frames := 4, cells := 0, slots := 0, locals := 100 } : Room)).room s m [.ref (be 0), .ref (be 1), .ref (be 2), .ref (be 3), .ref (be 4), .ref (be 5), .ref (be 6), .ref (be 7), .ref (be 8), .int (nI k), .int z, .int pr, .int lf].toArray below meth c H locs 0 0 (MQ below (va_Qi (fun (r : Int32) (u : LSt) => r = (cFetch σ k z pr lf).1 ∧ u.1 = (cFetch σ k z pr lf).2 ∧ OK u.1 u.2.1 u.2.2) (xB D (tX cI cJ ty) (lX be cI cJ wr) A) A) [.ref (be 0), .ref (be 1), .ref (be 2), .ref (be 3), .ref (be 4), .ref (be 5), .ref (be 6), .ref (be 7), .ref (be 8), .int (nI k), .int z, .int pr, .int lf].toArray s 0 0 A) (F0 m 153 ls [.int (if ovr σ k then 1 else 0), .int (gI σ 12), .int 7, .ref (be 6)]) := by
    intro H locs ls hh hP hD hS hl
    obtain ⟨hs1, hs2⟩ := soon_ok h8 h1
    refine lv_iadd hx hb dL_fetches_153 ?_
    refine l_st6_7 (v := (gI σ 12) + (if ovr σ k then 1 else 0)) hx hb hK hP hD hS dL_fetches_154 (fun H locs hP hD hS => ?_)
    refine lv_aload_n hx hb dL_fetches_155 rfl (lv_at hl 0 rfl) ?_
    refine lv_aload hx hb dL_fetches_156 (lv_at hl 5 rfl) ?_
    refine lv_aload hx hb dL_fetches_158 (lv_at hl 6 rfl) ?_
    refine lv_iload hx hb dL_fetches_160 (lv_at hl 9 rfl) ?_
    refine x_callv (va_runS (As := [.ref (be 0), .ref (be 5), .ref (be 6), .int (nI k)]) (rest := []) ⟨hx, hb, hml, hown, hts⟩ (k_L_removes l D be cI cJ wr ty H.size (uI (uL (uI σ 7 (gI σ 7 + 1)) 10 (gL σ 10 + pr.toInt64)) 12 ((gI σ 12) + (if ovr σ k then 1 else 0))) ρ γ hk L9 hR9 (sr_len hS9) (fun x hx => sr_lt hS9 hx)) (va_cwS 4 hts gL_fetches_L_removes rfl rfl rfl (by decide +kernel) ⟨Nat.le_of_ble_eq_true rfl, Nat.le_of_ble_eq_true rfl⟩) (xPreS mE_ok trivial hK hA hP hD hS) rfl rfl hl.1 rfl (lv_room (Nat.le_of_ble_eq_true rfl)) dL_fetches_162 ⟨Nat.le_of_ble_eq_true rfl, Nat.le_of_ble_eq_true rfl⟩) hD hS hA (fun u H locs hp hP hD hS => ?_)
    obtain ⟨σ9, ρ9, γ9⟩ := u
    obtain ⟨hu9, hR9⟩ := hp
    have hu9 : σ9 = uB (uI (uL (uI σ 7 (gI σ 7 + 1)) 10 (gL σ 10 + pr.toInt64)) 12 ((gI σ 12) + (if ovr σ k then 1 else 0))) 1 k false := hu9
    rw [hu9] at hP hD
    have hR9 : Row ρ9 γ9 (wo k L9) := hR9
    refine lv_aload hx hb dL_fetches_165 (lv_at hl 4 rfl) ?_
    refine lv_iload hx hb dL_fetches_167 (lv_at hl 9 rfl) ?_
    refine l_ld4 hx hb hK hP hk dL_fetches_169 ?_
    refine x_if_le (tgt := 194) hx hb dL_fetches_170 (by decide) (fun c_10 => ?_) (fun c_10 => ?_)
    · refine lv_iconst (v := 0) hx hb dL_fetches_194 (by decide) ?_
      have hLt : cLate σ k = false := late_1 (Classical.byContradiction fun q => c_10 (hs1.mpr q))
      refine W.eq (g2 := F0 m 195 ls [.int (bI (cLate σ k))]) (by rw [hLt]; rfl) ?_
      exact B195 ρ9 γ9 H locs ls hh hR9 hP hD hS (lv_sub hl [0, 1, 2, 3, 4, 5, 6, 7, 8, 9, 10, 11, 12] rfl)
    · refine lv_aload hx hb dL_fetches_173 (lv_at hl 6 rfl) ?_
      refine lv_iconst (v := 0) hx hb dL_fetches_175 (by decide) ?_
      refine l_ld6 hx hb hK hP (k := 0) (by decide) (v := gI σ 1) rfl dL_fetches_176 ?_
      refine lv_aload hx hb dL_fetches_177 (lv_at hl 4 rfl) ?_
      refine lv_iload hx hb dL_fetches_179 (lv_at hl 9 rfl) ?_
      refine l_ld4 hx hb hK hP hk dL_fetches_181 ?_
      refine lv_isub hx hb dL_fetches_182 ?_
      refine lv_iconst (v := 1) hx hb dL_fetches_183 (by decide) ?_
      refine lv_iadd hx hb dL_fetches_184 ?_
      refine lv_bipush (v := 51) hx hb dL_fetches_185 (by decide) ?_
      refine x_icmp_ge (tgt := 194) hx hb dL_fetches_187 (by decide) (fun c_11 => ?_) (fun c_11 => ?_)
      · refine lv_iconst (v := 0) hx hb dL_fetches_194 (by decide) ?_
        have hLt : cLate σ k = false := late_2 (Classical.byContradiction fun q => c_11 (hs2.mpr q))
        refine W.eq (g2 := F0 m 195 ls [.int (bI (cLate σ k))]) (by rw [hLt]; rfl) ?_
        exact B195 ρ9 γ9 H locs ls hh hR9 hP hD hS (lv_sub hl [0, 1, 2, 3, 4, 5, 6, 7, 8, 9, 10, 11, 12] rfl)
      · refine lv_iconst (v := 1) hx hb dL_fetches_190 (by decide) ?_
        refine lv_goto (tgt := 195) hx hb dL_fetches_191 (by decide) ?_
        have hLt : cLate σ k = true := late_t (hs1.mp c_10) (hs2.mp c_11)
        refine W.eq (g2 := F0 m 195 ls [.int (bI (cLate σ k))]) (by rw [hLt]; rfl) ?_
        exact B195 ρ9 γ9 H locs ls hh hR9 hP hD hS (lv_sub hl [0, 1, 2, 3, 4, 5, 6, 7, 8, 9, 10, 11, 12] rfl)
  have B112 : ∀ (H : Heap) (locs : List Loc) (ls : Array Slot), (gB σ 1 k && !ended σ k && decide (gS σ 3 k = z)) = false → va_P D vwCl (lX be cI cJ wr (σ, ρ, γ)) H → va_D A (lX be cI cJ wr (σ, ρ, γ)) → va_S A s.heap H locs → lv_has ls 15 [(0, .ref (be 0)), (1, .ref (be 1)), (2, .ref (be 2)), (3, .ref (be 3)), (4, .ref (be 4)), (5, .ref (be 5)), (6, .ref (be 6)), (7, .ref (be 7)), (8, .ref (be 8)), (9, .int (nI k)), (10, .int z), (11, .int pr), (12, .int lf), (13, .int (bI (gB σ 1 k && !ended σ k)))] → W p l e (headSpec wsL_fetches ({ frames := 4, cells := 0, slots := 0, locals := 100 } : Room)).room s m [.ref (be 0), .ref (be 1), .ref (be 2), .ref (be 3), .ref (be 4), .ref (be 5), .ref (be 6), .ref (be 7), .ref (be 8), .int (nI k), .int z, .int pr, .int lf].toArray below meth c H locs 0 0 (MQ below (va_Qi (fun (r : Int32) (u : LSt) => r = (cFetch σ k z pr lf).1 ∧ u.1 = (cFetch σ k z pr lf).2 ∧ OK u.1 u.2.1 u.2.2) (xB D (tX cI cJ ty) (lX be cI cJ wr) A) A) [.ref (be 0), .ref (be 1), .ref (be 2), .ref (be 3), .ref (be 4), .ref (be 5), .ref (be 6), .ref (be 7), .ref (be 8), .int (nI k), .int z, .int pr, .int lf].toArray s 0 0 A) (F0 m 112 ls []) := by
    intro H locs ls hh hP hD hS hl
    refine lv_aload hx hb dL_fetches_112 (lv_at hl 6 rfl) ?_
    refine lv_iconst (v := 5) hx hb dL_fetches_114 (by decide) ?_
    refine lv_dup2_11 hx hb dL_fetches_115 rfl rfl ?_
    refine l_ld6 hx hb hK hP (k := 5) (by decide) (v := gI σ 7) rfl dL_fetches_116 ?_
    refine lv_iconst (v := 1) hx hb dL_fetches_117 (by decide) ?_
    refine lv_iadd hx hb dL_fetches_118 ?_
    refine l_st6_5 (v := (gI σ 7) + 1) hx hb hK hP hD hS dL_fetches_119 (fun H locs hP hD hS => ?_)
    refine lv_aload hx hb dL_fetches_120 (lv_at hl 8 rfl) ?_
    refine lv_iconst (v := 3) hx hb dL_fetches_122 (by decide) ?_
    refine lv_dup2_11 hx hb dL_fetches_123 rfl rfl ?_
    refine l_ld8 hx hb hK hP (k := 3) (by decide) (v := gL σ 10) rfl dL_fetches_124 ?_
    refine lv_iload hx hb dL_fetches_125 (lv_at hl 11 rfl) ?_
    refine lv_i2l (v := pr.toInt64) hx hb dL_fetches_127 rfl ?_
    refine lv_ladd hx hb dL_fetches_128 ?_
    refine l_st8_3 (v := (gL σ 10) + pr.toInt64) hx hb hK hP hD hS dL_fetches_129 (fun H locs hP hD hS => ?_)
    refine lv_aload hx hb dL_fetches_130 (lv_at hl 6 rfl) ?_
    refine lv_bipush (v := 7) hx hb dL_fetches_132 (by decide) ?_
    refine lv_dup2_11 hx hb dL_fetches_134 rfl rfl ?_
    refine l_ld6 hx hb hK hP (k := 7) (by decide) (v := gI σ 12) rfl dL_fetches_135 ?_
    refine lv_aload_n hx hb dL_fetches_136 rfl (lv_at hl 0 rfl) ?_
    refine lv_iload hx hb dL_fetches_137 (lv_at hl 9 rfl) ?_
    refine l_ld0 hx hb hK hP hk dL_fetches_139 ?_
    refine x_if_le (tgt := 152) hx hb dL_fetches_140 (by decide) (fun c_12 => ?_) (fun c_12 => ?_)
    · refine lv_iconst (v := 0) hx hb dL_fetches_152 (by decide) ?_
      have hOv : ovr σ k = false := by unfold ovr; cases h9 : gB σ 1 k with | false => rfl | true => exact absurd ((uF_pos hSz hk).mpr h9) c_12
      refine W.eq (g2 := F0 m 153 ls [.int (if ovr σ k then 1 else 0), .int (gI σ 12), .int 7, .ref (be 6)]) (by rw [hOv]; rfl) ?_
      exact B153 H locs ls hh hP hD hS (lv_sub hl [0, 1, 2, 3, 4, 5, 6, 7, 8, 9, 10, 11, 12] rfl)
    · refine lv_iload hx hb dL_fetches_143 (lv_at hl 13 rfl) ?_
      refine x_ifne (tgt := 152) hx hb dL_fetches_145 (by decide) (fun c_13 => ?_) (fun c_13 => ?_)
      · refine lv_iconst (v := 0) hx hb dL_fetches_152 (by decide) ?_
        have hOv : ovr σ k = false := by unfold ovr; have h9 := c_13; simp only [Bool.and_eq_true, Bool.not_eq_true'] at h9; rw [h9.2, Bool.and_false]
        refine W.eq (g2 := F0 m 153 ls [.int (if ovr σ k then 1 else 0), .int (gI σ 12), .int 7, .ref (be 6)]) (by rw [hOv]; rfl) ?_
        exact B153 H locs ls hh hP hD hS (lv_sub hl [0, 1, 2, 3, 4, 5, 6, 7, 8, 9, 10, 11, 12] rfl)
      · refine lv_iconst (v := 1) hx hb dL_fetches_148 (by decide) ?_
        refine lv_goto (tgt := 153) hx hb dL_fetches_149 (by decide) ?_
        have hOv : ovr σ k = true := by unfold ovr; have h9 := c_13; rw [(uF_pos hSz hk).mp c_12] at h9 ⊢; simpa using h9
        refine W.eq (g2 := F0 m 153 ls [.int (if ovr σ k then 1 else 0), .int (gI σ 12), .int 7, .ref (be 6)]) (by rw [hOv]; rfl) ?_
        exact B153 H locs ls hh hP hD hS (lv_sub hl [0, 1, 2, 3, 4, 5, 6, 7, 8, 9, 10, 11, 12] rfl)
  have B82 : ∀ (ρ1 : Nat → Int32) (γ1 : Nat) (H : Heap) (locs : List Loc) (ls : Array Slot), gB σ 1 k = true → ended σ k = false → gS σ 3 k = z → OK (lSetW (uS σ 4 k (gS σ 4 k + 1)) k pr) ρ1 γ1 → va_P D vwCl (lX be cI cJ wr (lSetW (uS σ 4 k (gS σ 4 k + 1)) k pr, ρ1, γ1)) H → va_D A (lX be cI cJ wr (lSetW (uS σ 4 k (gS σ 4 k + 1)) k pr, ρ1, γ1)) → va_S A s.heap H locs → lv_has ls 15 [(0, .ref (be 0)), (1, .ref (be 1)), (2, .ref (be 2)), (3, .ref (be 3)), (4, .ref (be 4)), (5, .ref (be 5)), (6, .ref (be 6)), (7, .ref (be 7)), (8, .ref (be 8)), (9, .int (nI k)), (10, .int z), (11, .int pr), (12, .int lf)] → W p l e (headSpec wsL_fetches ({ frames := 4, cells := 0, slots := 0, locals := 100 } : Room)).room s m [.ref (be 0), .ref (be 1), .ref (be 2), .ref (be 3), .ref (be 4), .ref (be 5), .ref (be 6), .ref (be 7), .ref (be 8), .int (nI k), .int z, .int pr, .int lf].toArray below meth c H locs 0 0 (MQ below (va_Qi (fun (r : Int32) (u : LSt) => r = (cFetch σ k z pr lf).1 ∧ u.1 = (cFetch σ k z pr lf).2 ∧ OK u.1 u.2.1 u.2.2) (xB D (tX cI cJ ty) (lX be cI cJ wr) A) A) [.ref (be 0), .ref (be 1), .ref (be 2), .ref (be 3), .ref (be 4), .ref (be 5), .ref (be 6), .ref (be 7), .ref (be 8), .int (nI k), .int z, .int pr, .int lf].toArray s 0 0 A) (F0 m 82 ls []) := by
    intro ρ1 γ1 H locs ls hB1 hE1 hZ1 hO1 hP hD hS hl
    refine lv_aload hx hb dL_fetches_82 (lv_at hl 6 rfl) ?_
    refine lv_iconst (v := 4) hx hb dL_fetches_84 (by decide) ?_
    refine lv_dup2_11 hx hb dL_fetches_85 rfl rfl ?_
    refine l_ld6 hx hb hK hP (k := 4) (by decide) (v := gI (lSetW (uS σ 4 k (gS σ 4 k + 1)) k pr) 6) rfl dL_fetches_86 ?_
    refine lv_iconst (v := 1) hx hb dL_fetches_87 (by decide) ?_
    refine lv_iadd hx hb dL_fetches_88 ?_
    refine l_st6_4 (v := (gI (lSetW (uS σ 4 k (gS σ 4 k + 1)) k pr) 6) + 1) hx hb hK hP hD hS dL_fetches_89 (fun H locs hP hD hS => ?_)
    refine lv_aload hx hb dL_fetches_90 (lv_at hl 8 rfl) ?_
    refine lv_iconst (v := 1) hx hb dL_fetches_92 (by decide) ?_
    refine lv_dup2_11 hx hb dL_fetches_93 rfl rfl ?_
    refine l_ld8 hx hb hK hP (k := 1) (by decide) (v := gL (lSetW (uS σ 4 k (gS σ 4 k + 1)) k pr) 8) rfl dL_fetches_94 ?_
    refine lv_iload hx hb dL_fetches_95 (lv_at hl 10 rfl) ?_
    refine lv_i2l (v := z.toInt64) hx hb dL_fetches_97 rfl ?_
    refine lv_ladd hx hb dL_fetches_98 ?_
    refine l_st8_1 (v := (gL (lSetW (uS σ 4 k (gS σ 4 k + 1)) k pr) 8) + z.toInt64) hx hb hK hP hD hS dL_fetches_99 (fun H locs hP hD hS => ?_)
    refine lv_aload hx hb dL_fetches_100 (lv_at hl 8 rfl) ?_
    refine lv_iconst (v := 2) hx hb dL_fetches_102 (by decide) ?_
    refine lv_dup2_11 hx hb dL_fetches_103 rfl rfl ?_
    refine l_ld8 hx hb hK hP (k := 2) (by decide) (v := gL (lSetW (uS σ 4 k (gS σ 4 k + 1)) k pr) 9) rfl dL_fetches_104 ?_
    refine lv_iload hx hb dL_fetches_105 (lv_at hl 11 rfl) ?_
    refine lv_i2l (v := pr.toInt64) hx hb dL_fetches_107 rfl ?_
    refine lv_ladd hx hb dL_fetches_108 ?_
    refine l_st8_2 (v := (gL (lSetW (uS σ 4 k (gS σ 4 k + 1)) k pr) 9) + pr.toInt64) hx hb hK hP hD hS dL_fetches_109 (fun H locs hP hD hS => ?_)
    refine lv_iconst (v := 0) hx hb dL_fetches_110 (by decide) ?_
    exact x_iret hx hb hr hlocks hK ((uL (uL (uI (lSetW (uS σ 4 k (gS σ 4 k + 1)) k pr) 6 ((gI (lSetW (uS σ 4 k (gS σ 4 k + 1)) k pr) 6) + 1)) 8 ((gL (lSetW (uS σ 4 k (gS σ 4 k + 1)) k pr) 8) + z.toInt64)) 9 ((gL (lSetW (uS σ 4 k (gS σ 4 k + 1)) k pr) 9) + pr.toInt64), ρ1, γ1) : LSt) hP hD hS (⟨by rw [cf_hit hB1 hE1 hZ1], by rw [cf_hit hB1 hE1 hZ1]; exact hit_eq hB1 hZ1 hz9.1, hO1⟩) dL_fetches_111
  refine lv_aload_n hx hb dL_fetches_0 rfl (lv_at hl 0 rfl) ?_
  refine lv_iload hx hb dL_fetches_1 (lv_at hl 9 rfl) ?_
  refine l_ld0 hx hb hK hP hk dL_fetches_3 ?_
  refine x_if_le (tgt := 22) hx hb dL_fetches_4 (by decide) (fun c_14 => ?_) (fun c_14 => ?_)
  · refine lv_iconst (v := 0) hx hb dL_fetches_22 (by decide) ?_
    have hfr : (gB σ 1 k && !ended σ k) = false := by cases h9 : gB σ 1 k with | false => rfl | true => exact absurd ((uF_pos hSz hk).mpr h9) c_14
    refine lv_istore (lv' := [(13, .int 0), (0, .ref (be 0)), (1, .ref (be 1)), (2, .ref (be 2)), (3, .ref (be 3)), (4, .ref (be 4)), (5, .ref (be 5)), (6, .ref (be 6)), (7, .ref (be 7)), (8, .ref (be 8)), (9, .int (nI k)), (10, .int z), (11, .int pr), (12, .int lf)]) hx hb dL_fetches_23 hl (by decide) rfl (fun ls hl => ?_)
    refine lv_iload hx hb dL_fetches_25 (lv_at hl 0 rfl) ?_
    refine lv_if_eq (tgt := 112) hx hb dL_fetches_27 (by decide) (fun _ => ?_) (fun c_15 => absurd (by decide) c_15)
    have hh : (gB σ 1 k && !ended σ k && decide (gS σ 3 k = z)) = false := by rw [hfr, Bool.false_and]
    have hl := lv_sub hl [1, 2, 3, 4, 5, 6, 7, 8, 9, 10, 11, 12, 13, 0] rfl
    have hl : lv_has ls 15 [(0, .ref (be 0)), (1, .ref (be 1)), (2, .ref (be 2)), (3, .ref (be 3)), (4, .ref (be 4)), (5, .ref (be 5)), (6, .ref (be 6)), (7, .ref (be 7)), (8, .ref (be 8)), (9, .int (nI k)), (10, .int z), (11, .int pr), (12, .int lf), (13, .int (bI (gB σ 1 k && !ended σ k)))] := by rw [hfr]; exact hl
    exact B112 H locs ls hh hP hD hS hl
  · refine lv_aload_n hx hb dL_fetches_7 rfl (lv_at hl 2 rfl) ?_
    refine lv_iload hx hb dL_fetches_8 (lv_at hl 9 rfl) ?_
    refine l_ld2 hx hb hK hP hk dL_fetches_10 ?_
    refine lv_aload hx hb dL_fetches_11 (lv_at hl 6 rfl) ?_
    refine lv_iconst (v := 0) hx hb dL_fetches_13 (by decide) ?_
    refine l_ld6 hx hb hK hP (k := 0) (by decide) (v := gI σ 1) rfl dL_fetches_14 ?_
    refine x_icmp_le (tgt := 22) hx hb dL_fetches_15 (by decide) (fun c_16 => ?_) (fun c_16 => ?_)
    · refine lv_iconst (v := 0) hx hb dL_fetches_22 (by decide) ?_
      have hfr : (gB σ 1 k && !ended σ k) = false := by rw [en_t c_16, Bool.not_true, Bool.and_false]
      refine lv_istore (lv' := [(13, .int 0), (0, .ref (be 0)), (1, .ref (be 1)), (2, .ref (be 2)), (3, .ref (be 3)), (4, .ref (be 4)), (5, .ref (be 5)), (6, .ref (be 6)), (7, .ref (be 7)), (8, .ref (be 8)), (9, .int (nI k)), (10, .int z), (11, .int pr), (12, .int lf)]) hx hb dL_fetches_23 hl (by decide) rfl (fun ls hl => ?_)
      refine lv_iload hx hb dL_fetches_25 (lv_at hl 0 rfl) ?_
      refine lv_if_eq (tgt := 112) hx hb dL_fetches_27 (by decide) (fun _ => ?_) (fun c_17 => absurd (by decide) c_17)
      have hh : (gB σ 1 k && !ended σ k && decide (gS σ 3 k = z)) = false := by rw [hfr, Bool.false_and]
      have hl := lv_sub hl [1, 2, 3, 4, 5, 6, 7, 8, 9, 10, 11, 12, 13, 0] rfl
      have hl : lv_has ls 15 [(0, .ref (be 0)), (1, .ref (be 1)), (2, .ref (be 2)), (3, .ref (be 3)), (4, .ref (be 4)), (5, .ref (be 5)), (6, .ref (be 6)), (7, .ref (be 7)), (8, .ref (be 8)), (9, .int (nI k)), (10, .int z), (11, .int pr), (12, .int lf), (13, .int (bI (gB σ 1 k && !ended σ k)))] := by rw [hfr]; exact hl
      exact B112 H locs ls hh hP hD hS hl
    · refine lv_iconst (v := 1) hx hb dL_fetches_18 (by decide) ?_
      refine lv_goto (tgt := 23) hx hb dL_fetches_19 (by decide) ?_
      have hB1 : gB σ 1 k = true := (uF_pos hSz hk).mp c_14
      have hE1 : ended σ k = false := en_f c_16
      have hfr : (gB σ 1 k && !ended σ k) = true := by rw [hB1, hE1]; rfl
      refine lv_istore (lv' := [(13, .int 1), (0, .ref (be 0)), (1, .ref (be 1)), (2, .ref (be 2)), (3, .ref (be 3)), (4, .ref (be 4)), (5, .ref (be 5)), (6, .ref (be 6)), (7, .ref (be 7)), (8, .ref (be 8)), (9, .int (nI k)), (10, .int z), (11, .int pr), (12, .int lf)]) hx hb dL_fetches_23 hl (by decide) rfl (fun ls hl => ?_)
      refine lv_iload hx hb dL_fetches_25 (lv_at hl 0 rfl) ?_
      refine lv_if_eq (tgt := 112) hx hb dL_fetches_27 (by decide) (fun c_18 => absurd c_18 (by decide)) (fun _ => ?_)
      refine lv_aload_n hx hb dL_fetches_30 rfl (lv_at hl 1 rfl) ?_
      refine lv_iload hx hb dL_fetches_31 (lv_at hl 10 rfl) ?_
      refine l_ld0 hx hb hK hP hk dL_fetches_33 ?_
      refine lv_iload hx hb dL_fetches_34 (lv_at hl 11 rfl) ?_
      refine lv_icmp_ne (tgt := 112) hx hb dL_fetches_36 (by decide) (fun c_19 => ?_) (fun c_19 => ?_)
      · have hh : (gB σ 1 k && !ended σ k && decide (gS σ 3 k = z)) = false := by rw [hfr, Bool.true_and]; exact decide_eq_false (fun q => c_19 (by unfold uF; rw [if_pos hB1]; exact q))
        have hl := lv_sub hl [1, 2, 3, 4, 5, 6, 7, 8, 9, 10, 11, 12, 13, 0] rfl
        have hl : lv_has ls 15 [(0, .ref (be 0)), (1, .ref (be 1)), (2, .ref (be 2)), (3, .ref (be 3)), (4, .ref (be 4)), (5, .ref (be 5)), (6, .ref (be 6)), (7, .ref (be 7)), (8, .ref (be 8)), (9, .int (nI k)), (10, .int z), (11, .int pr), (12, .int lf), (13, .int (bI (gB σ 1 k && !ended σ k)))] := by rw [hfr]; exact hl
        exact B112 H locs ls hh hP hD hS hl
      · have hZ1 : gS σ 3 k = z := by have h9 := c_19; unfold uF at h9; rw [if_pos hB1] at h9; exact h9
        have hS2 : SR (uS σ 4 k (gS σ 4 k + 1)) (inO σ) L9 := hS9
        obtain ⟨hc1, hc2⟩ := sr_cnt (k := k) (pr := pr) hS2 hn8 hV9.2.2.2.1 (fun x hx => hV9.2.2.1 x (sr_lt hS9 hx) (inO_B ((hS9.1 x).mp hx).2).1)
        refine lv_aload_n hx hb dL_fetches_39 rfl (lv_at hl 2 rfl) ?_
        refine lv_iload hx hb dL_fetches_40 (lv_at hl 10 rfl) ?_
        refine lv_dup2_11 hx hb dL_fetches_42 rfl rfl ?_
        refine l_ld1 hx hb hK hP hk dL_fetches_43 ?_
        refine lv_iconst (v := 1) hx hb dL_fetches_44 (by decide) ?_
        refine lv_iadd hx hb dL_fetches_45 ?_
        refine l_st1 (v := (gS σ 4 k) + 1) hx hb hK hP hD hS hk dL_fetches_46 (fun H locs hP hD hS => ?_)
        refine lv_aload_n hx hb dL_fetches_47 rfl (lv_at hl 1 rfl) ?_
        refine lv_aload_n hx hb dL_fetches_48 rfl (lv_at hl 2 rfl) ?_
        refine lv_aload hx hb dL_fetches_49 (lv_at hl 6 rfl) ?_
        refine lv_aload hx hb dL_fetches_51 (lv_at hl 7 rfl) ?_
        refine lv_aload hx hb dL_fetches_53 (lv_at hl 8 rfl) ?_
        refine lv_aload hx hb dL_fetches_55 (lv_at hl 9 rfl) ?_
        refine lv_iload hx hb dL_fetches_57 (lv_at hl 10 rfl) ?_
        refine lv_iload hx hb dL_fetches_59 (lv_at hl 12 rfl) ?_
        refine x_callv (va_runS (As := [.ref (be 0), .ref (be 1), .ref (be 5), .ref (be 6), .ref (be 7), .ref (be 8), .int (nI k), .int pr]) (rest := []) ⟨hx, hb, hml, hown, hts⟩ (k_L_counts l D be cI cJ wr ty H.size (uS σ 4 k ((gS σ 4 k) + 1)) ρ γ pr hk L9 hR9 (sr_len hS9) (fun x hx => sr_lt hS9 hx) (fun q => hz0 (by rw [← hZ1]; have h9 : uF σ k = 0 := q; unfold uF at h9; rw [if_pos hB1] at h9; exact h9))) (va_cwS 8 hts gL_fetches_L_counts rfl rfl rfl (by decide +kernel) ⟨Nat.le_of_ble_eq_true rfl, Nat.le_of_ble_eq_true rfl⟩) (xPreS mE_ok trivial hK hA hP hD hS) rfl rfl hl.1 rfl (lv_room (Nat.le_of_ble_eq_true rfl)) dL_fetches_61 ⟨Nat.le_of_ble_eq_true rfl, Nat.le_of_ble_eq_true rfl⟩) hD hS hA (fun u H locs hp hP hD hS => ?_)
        obtain ⟨σ20, ρ20, γ20⟩ := u
        obtain ⟨hu20, hR20⟩ := hp
        have hu20 : σ20 = lSetW (uS σ 4 k ((gS σ 4 k) + 1)) k pr := hu20
        rw [hu20] at hP hD
        have hR20 : Row ρ20 γ20 (wo k L9) := hR20
        refine lv_aload_n hx hb dL_fetches_64 rfl (lv_at hl 4 rfl) ?_
        refine lv_iload hx hb dL_fetches_65 (lv_at hl 10 rfl) ?_
        refine l_ld3 hx hb hK hP hk dL_fetches_67 ?_
        refine x_ifne (tgt := 82) hx hb dL_fetches_68 (by decide) (fun c_21 => ?_) (fun c_21 => ?_)
        · exact B82 ρ20 γ20 H locs ls hB1 hE1 hZ1 ⟨_, hR20, hit_pin c_21 hc1⟩ hP hD hS (lv_sub hl [1, 2, 3, 4, 5, 6, 7, 8, 9, 10, 11, 12, 13] rfl)
        · refine lv_aload hx hb dL_fetches_71 (lv_at hl 6 rfl) ?_
          refine lv_aload hx hb dL_fetches_73 (lv_at hl 7 rfl) ?_
          refine lv_aload hx hb dL_fetches_75 (lv_at hl 8 rfl) ?_
          refine lv_iload hx hb dL_fetches_77 (lv_at hl 10 rfl) ?_
          refine x_callv (va_runS (As := [.ref (be 5), .ref (be 6), .ref (be 7), .int (nI k)]) (rest := []) ⟨hx, hb, hml, hown, hts⟩ (k_L_putIn l D be cI cJ wr ty H.size (lSetW (uS σ 4 k ((gS σ 4 k) + 1)) k pr) ρ20 γ20 hk (wo k L9) (fun x => inO σ x && decide (x ≠ k)) hR20 hc1 hc2) (va_cwS 4 hts gL_fetches_L_putIn rfl rfl rfl (by decide +kernel) ⟨Nat.le_of_ble_eq_true rfl, Nat.le_of_ble_eq_true rfl⟩) (xPreS mE_ok trivial hK hA hP hD hS) rfl rfl hl.1 rfl (lv_room (Nat.le_of_ble_eq_true rfl)) dL_fetches_79 ⟨Nat.le_of_ble_eq_true rfl, Nat.le_of_ble_eq_true rfl⟩) hD hS hA (fun u H locs hp hP hD hS => ?_)
          obtain ⟨σ22, ρ22, γ22⟩ := u
          obtain ⟨hu22, L22, hR22, hQ22⟩ := hp
          have hu22 : σ22 = lSetW (uS σ 4 k ((gS σ 4 k) + 1)) k pr := hu22
          rw [hu22] at hP hD
          have hR22 : Row ρ22 γ22 L22 := hR22
          exact B82 ρ22 γ22 H locs ls hB1 hE1 hZ1 ⟨_, hR22, hit_ok hB1 c_21 hQ22⟩ hP hD hS (lv_sub hl [1, 2, 3, 4, 5, 6, 7, 8, 9, 10, 11, 12, 13] rfl)
