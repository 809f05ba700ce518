def LC (p : Program) (l : Launch) (s : State) (m : MethodId) (meth : Method) (c : Code) (A : Nat → Prop) (D : va_G) (cO cI cJ : ClassId) (b L : Nat) (xs : Nat → Int32) : Prop :=
  p.tables.exec = Jvm.exec ∧ c.code = cL_law ∧ c.maxLocals = 20 ∧ s.vm.findClass RL = some m.cls ∧ (∀ w ∈ wsL_law, w.before #[Value.ref b] s = true) ∧ xE A s s.heap ∧ va_K D vwCl (tX cI cJ (cT cO)) s ∧ (∀ q, s.heap.size ≤ q → A q) ∧ va_X b L xs s s.heap ∧ b < s.heap.size ∧ ¬ A b ∧ l.stackTraces = false ∧ L ≤ 260 ∧ meth.locks = false
set_option maxHeartbeats 4000000 in
set_option maxRecDepth 100000 in
theorem c_fetch {p : Program} {l : Launch} {e : Env} {s : State} {m : MethodId} {below : List Frame} {meth : Method} {c : Code} {H : Heap} {locs : List Loc} {cells slots : Nat} {Q : State → Prop} {ls : Array Slot} {A : Nat → Prop} {D : va_G} {cO cI cJ : ClassId} {b L : Nat} {xs : Nat → Int32} {ax ar : Nat} {ad be : Nat → Nat} {n : Nat} {σ : St} {ρ : Nat → Int32} {γ : Nat} (C : LC p l s m meth c A D cO cI cJ b L xs) (hn : n < 100) (hI : SI n σ ρ γ) (y t : Nat) (hy : y < 2 ^ 27) (ht : t < 32) (hcl : cells + 4 ≤ room_1.cells) (hsl : slots + 24 ≤ room_1.slots) (hP : va_P D vwCl (lX be cI cJ (cW ax ar ad cO σ) (σ, ρ, γ)) H) (hD : va_D A (lX be cI cJ (cW ax ar ad cO σ) (σ, ρ, γ))) (hS : va_S A s.heap H locs) (hl : lv_has ls 20 [(0, .ref b), (1, .ref ax), (2, .ref (be 0)), (3, .ref (be 1)), (4, .ref (be 2)), (5, .ref (be 3)), (6, .ref (be 4)), (7, .ref (be 5)), (8, .ref (be 6)), (9, .ref (be 7)), (10, .ref (be 8)), (12, .int (nI n)), (15, .int (nI y)), (16, .int (nI t))])
    (kk : ∀ (σ9 : St) (ρ9 : Nat → Int32) (γ9 : Nat) (H9 : Heap) (locs9 : List Loc) (ls9 : Array Slot), SI (n + 1) σ9 ρ9 γ9 → va_P D vwCl (lX be cI cJ (cW ax ar ad cO σ9) (σ9, ρ9, γ9)) H9 → va_D A (lX be cI cJ (cW ax ar ad cO σ9) (σ9, ρ9, γ9)) → va_S A s.heap H9 locs9 → lv_has ls9 20 [(0, .ref b), (1, .ref ax), (2, .ref (be 0)), (3, .ref (be 1)), (4, .ref (be 2)), (5, .ref (be 3)), (6, .ref (be 4)), (7, .ref (be 5)), (8, .ref (be 6)), (9, .ref (be 7)), (10, .ref (be 8)), (11, .int 1), (12, .int (nI n)), (15, .int (nI y))] → W p l e room_1 s m #[Value.ref b] below meth c H9 locs9 (cells + 4) (slots + 24) Q (F0 m 850 ls9 [])) :
    W p l e room_1 s m #[Value.ref b] below meth c H locs cells slots Q (F0 m 196 ls []) := by
  obtain ⟨hx, hb, hml, hown, hts, hE, hK, hA, hX, hbl, hbA, hfl, hL, hlocks⟩ := C
  have hKc : va_K D vwCl (cT cO) s := hK.sub [2] rfl
  obtain ⟨hV9, ⟨hT1, hT8⟩, L9, hR9, hS9⟩ := id hI
  have hn30 : n < 2 ^ 30 := by omega
  have B286 : ∀ (z pr lf : Nat) (H : Heap) (locs : List Loc) (ls : Array Slot), 1 ≤ z ∧ z ≤ 1000 → pr ≤ 1000 → 1 ≤ lf ∧ lf ≤ 10000 → va_P D vwCl (lX be cI cJ (cW ax ar ad cO σ) (σ, ρ, γ)) H → va_D A (lX be cI cJ (cW ax ar ad cO σ) (σ, ρ, γ)) → va_S A s.heap H locs → lv_has ls 20 [(0, .ref b), (1, .ref ax), (2, .ref (be 0)), (3, .ref (be 1)), (4, .ref (be 2)), (5, .ref (be 3)), (6, .ref (be 4)), (7, .ref (be 5)), (8, .ref (be 6)), (9, .ref (be 7)), (10, .ref (be 8)), (12, .int (nI n)), (15, .int (nI y)), (16, .int (nI t)), (17, .int (nI z)), (18, .int (nI pr))] → W p l e room_1 s m #[Value.ref b] below meth c H locs (cells) (slots) Q (F0 m 286 ls [.int (nI lf)]) := by
    intro z pr lf H locs ls hz hpr hlf hP hD hS hl
    have hzi : 1 ≤ (nI z).toInt ∧ (nI z).toInt ≤ 1000 := t_N hz (by decide)
    have hok : (inR (nI z) 1 1000 && inR (nI pr) 0 1000 && inR (nI lf) 1 10000) = true := by
      rw [show inR (nI z) 1 1000 = true from in_N hz (by decide), show inR (nI pr) 0 1000 = true from in_N (a := 0) ⟨Nat.zero_le _, hpr⟩ (by decide), show inR (nI lf) 1 10000 = true from in_N hlf (by decide)]
      rfl
    have h8 : -1 ≤ (gS σ 8 t).toInt ∧ (gS σ 8 t).toInt ≤ 1073741824 := by have := hT8 t ht; omega
    have h1 : 0 ≤ (gI σ 1).toInt ∧ (gI σ 1).toInt ≤ 1073741824 := by omega
    refine lv_istore (lv' := [(19, .int (nI lf)), (0, .ref b), (1, .ref ax), (2, .ref (be 0)), (3, .ref (be 1)), (4, .ref (be 2)), (5, .ref (be 3)), (6, .ref (be 4)), (7, .ref (be 5)), (8, .ref (be 6)), (9, .ref (be 7)), (10, .ref (be 8)), (12, .int (nI n)), (15, .int (nI y)), (16, .int (nI t)), (17, .int (nI z)), (18, .int (nI pr))]) hx hb dL_law_286 hl (by decide) rfl (fun ls hl => ?_)
    refine lv_aload_n hx hb dL_law_288 rfl (lv_at hl 2 rfl) ?_
    refine lv_iload hx hb dL_law_289 (lv_at hl 14 rfl) ?_
    refine lv_iload hx hb dL_law_291 (lv_at hl 15 rfl) ?_
    refine lv_iload hx hb dL_law_293 (lv_at hl 16 rfl) ?_
    refine lv_iload hx hb dL_law_295 (lv_at hl 0 rfl) ?_
    have hP := P_c (a := lW be cI cJ (σ, ρ, γ)) (b := cW ax ar ad cO σ) hP
    have hD := D_c (a := lW be cI cJ (σ, ρ, γ)) (b := cW ax ar ad cO σ) hD
    refine ff_calli (vx_runV (As := [.int (nI t), .int (nI z), .int (nI pr), .int (nI lf)]) (rest := []) ⟨hx, hb, hml, hown, hts⟩ (k_X1_fetch l D ax ar ad cO H.size σ (nI t) (nI z) (nI pr) (nI lf) hfl) (cwV 4 hts gL_law_X1_fetch rfl rfl rfl (by decide +kernel) ⟨Nat.le_of_ble_eq_true rfl, Nat.le_of_ble_eq_true rfl⟩) (xPreV xE_ok hE hKc hA (P_l hP) (D_l hD) hS (q0 := 0) (ci := 1) rfl rfl rfl) rfl rfl hl.1 rfl (lv_room (Nat.le_of_ble_eq_true rfl)) dL_law_297 ⟨(by show cells + 4 ≤ room_1.cells; omega), (by show slots + 24 ≤ room_1.slots; omega)⟩) hP hD hS hA (fun En ce q9 H locs hxc hP hS hq9 hv9 hcl8 => ?_) (fun r u H locs hp hP hD hS => ?_)
    · rcases hxc with ⟨-, h9⟩ | ⟨-, -, h9⟩
      · exact absurd (h9.symm.trans (isT_of ht)) (by decide)
      · exact absurd (h9.symm.trans hok) (by decide)
    · obtain ⟨-, -, hq⟩ := hp
      obtain ⟨rfl, hu9⟩ := hq t ht rfl
      rw [hu9] at hP hD
      have hP : va_P D vwCl (lX be cI cJ (cW ax ar ad cO ((cFetch σ t (nI z) (nI pr) (nI lf)).2)) (σ, ρ, γ)) H := P_c hP
      have hD : va_D A (lX be cI cJ (cW ax ar ad cO ((cFetch σ t (nI z) (nI pr) (nI lf)).2)) (σ, ρ, γ)) := D_c hD
      refine lv_aload_n hx hb dL_law_300 rfl (lv_at hl 3 rfl) ?_
      refine lv_aload_n hx hb dL_law_301 rfl (lv_at hl 4 rfl) ?_
      refine lv_aload hx hb dL_law_302 (lv_at hl 5 rfl) ?_
      refine lv_aload hx hb dL_law_304 (lv_at hl 6 rfl) ?_
      refine lv_aload hx hb dL_law_306 (lv_at hl 7 rfl) ?_
      refine lv_aload hx hb dL_law_308 (lv_at hl 8 rfl) ?_
      refine lv_aload hx hb dL_law_310 (lv_at hl 9 rfl) ?_
      refine lv_aload hx hb dL_law_312 (lv_at hl 10 rfl) ?_
      refine lv_aload hx hb dL_law_314 (lv_at hl 11 rfl) ?_
      refine lv_iload hx hb dL_law_316 (lv_at hl 14 rfl) ?_
      refine lv_iload hx hb dL_law_318 (lv_at hl 15 rfl) ?_
      refine lv_iload hx hb dL_law_320 (lv_at hl 16 rfl) ?_
      refine lv_iload hx hb dL_law_322 (lv_at hl 0 rfl) ?_
      refine x_calli (va_runS (As := [.ref (be 0), .ref (be 1), .ref (be 2), .ref (be 3), .ref (be 4), .ref (be 5), .ref (be 6), .ref (be 7), .ref (be 8), .int (nI t), .int (nI z), .int (nI pr), .int (nI lf)]) (rest := [.int ((cFetch σ t (nI z) (nI pr) (nI lf)).1)]) ⟨hx, hb, hml, hown, hts⟩ (k_L_fetches l D be cI cJ (cW ax ar ad cO ((cFetch σ t (nI z) (nI pr) (nI lf)).2)) (cT cO) H.size σ ρ γ (nI z) (nI pr) (nI lf) ht n hV9 hn30 hzi L9 hR9 hS9 h8 h1) (va_cwS 13 hts gL_law_L_fetches rfl rfl rfl (by decide +kernel) ⟨Nat.le_of_ble_eq_true rfl, Nat.le_of_ble_eq_true rfl⟩) (xPreS mE_ok trivial hK hA hP hD hS) rfl rfl hl.1 rfl (lv_room (Nat.le_of_ble_eq_true rfl)) dL_law_324 ⟨(by show cells + 4 + 0 ≤ room_1.cells; omega), (by show slots + 24 + 0 ≤ room_1.slots; omega)⟩) hD hS hA (fun r u H locs hp hP hD hS => ?_)
      obtain ⟨σ2, ρ2, γ2⟩ := u
      obtain ⟨rfl, hu2, hO2⟩ := hp
      have hu2 : σ2 = (cFetch σ t (nI z) (nI pr) (nI lf)).2 := hu2
      have hO2 : OK σ2 ρ2 γ2 := hO2
      rw [hu2] at hP hD hO2
      refine lv_icmp_ne (tgt := 334) hx hb dL_law_327 (by decide) (fun c9 => absurd (rfl) c9) (fun _ => ?_)
      refine lv_iconst (v := 1) hx hb dL_law_330 (by decide) ?_
      refine lv_goto (tgt := 335) hx hb dL_law_331 (by decide) ?_
      refine lv_istore (lv' := [(11, .int 1), (19, .int (nI lf)), (0, .ref b), (1, .ref ax), (2, .ref (be 0)), (3, .ref (be 1)), (4, .ref (be 2)), (5, .ref (be 3)), (6, .ref (be 4)), (7, .ref (be 5)), (8, .ref (be 6)), (9, .ref (be 7)), (10, .ref (be 8)), (12, .int (nI n)), (15, .int (nI y)), (16, .int (nI t)), (17, .int (nI z)), (18, .int (nI pr))]) hx hb dL_law_335 hl (by decide) rfl (fun ls hl => ?_)
      refine lv_goto (tgt := 850) hx hb dL_law_337 (by decide) ?_
      refine W.widen (k := cells + 4) (n := slots + 24) (by omega) (by omega) ?_
      exact kk ((cFetch σ t (nI z) (nI pr) (nI lf)).2) ρ2 γ2 H locs ls (si_fetch hI hn30 ht hzi hO2) hP hD hS (lv_sub hl [2, 3, 4, 5, 6, 7, 8, 9, 10, 11, 12, 0, 13, 14] rfl)
  have B261 : ∀ (z pr : Nat) (H : Heap) (locs : List Loc) (ls : Array Slot), 1 ≤ z ∧ z ≤ 1000 → pr ≤ 1000 → va_P D vwCl (lX be cI cJ (cW ax ar ad cO σ) (σ, ρ, γ)) H → va_D A (lX be cI cJ (cW ax ar ad cO σ) (σ, ρ, γ)) → va_S A s.heap H locs → lv_has ls 20 [(0, .ref b), (1, .ref ax), (2, .ref (be 0)), (3, .ref (be 1)), (4, .ref (be 2)), (5, .ref (be 3)), (6, .ref (be 4)), (7, .ref (be 5)), (8, .ref (be 6)), (9, .ref (be 7)), (10, .ref (be 8)), (12, .int (nI n)), (15, .int (nI y)), (16, .int (nI t)), (17, .int (nI z))] → W p l e room_1 s m #[Value.ref b] below meth c H locs (cells) (slots) Q (F0 m 261 ls [.int (nI pr)]) := by
    intro z pr H locs ls hz hpr hP hD hS hl
    refine lv_istore (lv' := [(18, .int (nI pr)), (0, .ref b), (1, .ref ax), (2, .ref (be 0)), (3, .ref (be 1)), (4, .ref (be 2)), (5, .ref (be 3)), (6, .ref (be 4)), (7, .ref (be 5)), (8, .ref (be 6)), (9, .ref (be 7)), (10, .ref (be 8)), (12, .int (nI n)), (15, .int (nI y)), (16, .int (nI t)), (17, .int (nI z))]) hx hb dL_law_261 hl (by decide) rfl (fun ls hl => ?_)
    refine lv_iconst (v := 1) hx hb dL_law_263 (by decide) ?_
    refine lv_iload hx hb dL_law_264 (lv_at hl 13 rfl) ?_
    refine lv_bipush (v := 11) hx hb dL_law_266 (by decide) ?_
    refine lv_idiv hx hb dL_law_268 (by decide) ?_
    refine W.eq (g2 := F0 m 269 ls [.int (nI (y / 11)), .int 1]) (by rw [show nI y / 11 = nI (y / 11) from pk_div (d := 11) (by omega) (by decide) (by decide)]) ?_
    refine lv_iload hx hb dL_law_269 (lv_at hl 13 rfl) ?_
    refine lv_iconst (v := 4) hx hb dL_law_271 (by decide) ?_
    refine lv_irem hx hb dL_law_272 (by decide) ?_
    refine W.eq (g2 := F0 m 273 ls [.int (nI (y % 4)), .int (nI (y / 11)), .int 1]) (by rw [show nI y - nI y / 4 * 4 = nI (y % 4) from pk_rem (d := 4) (by omega) (by decide) (by decide)]) ?_
    refine lv_if_ne (tgt := 282) hx hb dL_law_273 (by decide) (fun c_1 => ?_) (fun c_1 => ?_)
    · refine lv_bipush (v := 60) hx hb dL_law_282 (by decide) ?_
      refine lv_irem hx hb dL_law_284 (by decide) ?_
      refine W.eq (g2 := F0 m 285 ls [.int (nI ((y / 11) % 60)), .int 1]) (by rw [show nI (y / 11) - nI (y / 11) / 60 * 60 = nI ((y / 11) % 60) from pk_rem (d := 60) (by omega) (by decide) (by decide)]) ?_
      refine lv_iadd hx hb dL_law_285 ?_
      refine W.eq (g2 := F0 m 286 ls [.int (nI (1 + ((y / 11) % 60)))]) (by rw [show (1 : Int32) + nI ((y / 11) % 60) = nI (1 + ((y / 11) % 60)) from nI_add 1 _]) ?_
      exact B286 z pr (1 + ((y / 11) % 60)) H locs ls hz hpr (by omega) hP hD hS (lv_sub hl [1, 2, 3, 4, 5, 6, 7, 8, 9, 10, 11, 12, 13, 14, 15, 0] rfl)
    · refine lv_sipush (v := 10000) hx hb dL_law_276 (by decide) ?_
      refine lv_goto (tgt := 284) hx hb dL_law_279 (by decide) ?_
      refine lv_irem hx hb dL_law_284 (by decide) ?_
      refine W.eq (g2 := F0 m 285 ls [.int (nI ((y / 11) % 10000)), .int 1]) (by rw [show nI (y / 11) - nI (y / 11) / 10000 * 10000 = nI ((y / 11) % 10000) from pk_rem (d := 10000) (by omega) (by decide) (by decide)]) ?_
      refine lv_iadd hx hb dL_law_285 ?_
      refine W.eq (g2 := F0 m 286 ls [.int (nI (1 + ((y / 11) % 10000)))]) (by rw [show (1 : Int32) + nI ((y / 11) % 10000) = nI (1 + ((y / 11) % 10000)) from nI_add 1 _]) ?_
      exact B286 z pr (1 + ((y / 11) % 10000)) H locs ls hz hpr (by omega) hP hD hS (lv_sub hl [1, 2, 3, 4, 5, 6, 7, 8, 9, 10, 11, 12, 13, 14, 15, 0] rfl)
  have B223 : ∀ (z : Nat) (H : Heap) (locs : List Loc) (ls : Array Slot), 1 ≤ z ∧ z ≤ 1000 → va_P D vwCl (lX be cI cJ (cW ax ar ad cO σ) (σ, ρ, γ)) H → va_D A (lX be cI cJ (cW ax ar ad cO σ) (σ, ρ, γ)) → va_S A s.heap H locs → lv_has ls 20 [(0, .ref b), (1, .ref ax), (2, .ref (be 0)), (3, .ref (be 1)), (4, .ref (be 2)), (5, .ref (be 3)), (6, .ref (be 4)), (7, .ref (be 5)), (8, .ref (be 6)), (9, .ref (be 7)), (10, .ref (be 8)), (12, .int (nI n)), (15, .int (nI y)), (16, .int (nI t))] → W p l e room_1 s m #[Value.ref b] below meth c H locs (cells) (slots) Q (F0 m 223 ls [.int (nI z)]) := by
    intro z H locs ls hz hP hD hS hl
    refine lv_istore (lv' := [(17, .int (nI z)), (0, .ref b), (1, .ref ax), (2, .ref (be 0)), (3, .ref (be 1)), (4, .ref (be 2)), (5, .ref (be 3)), (6, .ref (be 4)), (7, .ref (be 5)), (8, .ref (be 6)), (9, .ref (be 7)), (10, .ref (be 8)), (12, .int (nI n)), (15, .int (nI y)), (16, .int (nI t))]) hx hb dL_law_223 hl (by decide) rfl (fun ls hl => ?_)
    refine lv_iload hx hb dL_law_225 (lv_at hl 13 rfl) ?_
    refine lv_bipush (v := 40) hx hb dL_law_227 (by decide) ?_
    refine lv_idiv hx hb dL_law_229 (by decide) ?_
    refine W.eq (g2 := F0 m 230 ls [.int (nI (y / 40))]) (by rw [show nI y / 40 = nI (y / 40) from pk_div (d := 40) (by omega) (by decide) (by decide)]) ?_
    refine lv_iconst (v := 3) hx hb dL_law_230 (by decide) ?_
    refine lv_irem hx hb dL_law_231 (by decide) ?_
    refine W.eq (g2 := F0 m 232 ls [.int (nI ((y / 40) % 3))]) (by rw [show nI (y / 40) - nI (y / 40) / 3 * 3 = nI ((y / 40) % 3) from pk_rem (d := 3) (by omega) (by decide) (by decide)]) ?_
    refine lv_if_ne (tgt := 239) hx hb dL_law_232 (by decide) (fun c_2 => ?_) (fun c_2 => ?_)
    · refine lv_iload hx hb dL_law_239 (lv_at hl 13 rfl) ?_
      refine lv_bipush (v := 120) hx hb dL_law_241 (by decide) ?_
      refine lv_idiv hx hb dL_law_243 (by decide) ?_
      refine W.eq (g2 := F0 m 244 ls [.int (nI (y / 120))]) (by rw [show nI y / 120 = nI (y / 120) from pk_div (d := 120) (by omega) (by decide) (by decide)]) ?_
      refine lv_iload hx hb dL_law_244 (lv_at hl 13 rfl) ?_
      refine lv_bipush (v := 7) hx hb dL_law_246 (by decide) ?_
      refine lv_irem hx hb dL_law_248 (by decide) ?_
      refine W.eq (g2 := F0 m 249 ls [.int (nI (y % 7)), .int (nI (y / 120))]) (by rw [show nI y - nI y / 7 * 7 = nI (y % 7) from pk_rem (d := 7) (by omega) (by decide) (by decide)]) ?_
      refine lv_if_ne (tgt := 258) hx hb dL_law_249 (by decide) (fun c_3 => ?_) (fun c_3 => ?_)
      · refine lv_bipush (v := 20) hx hb dL_law_258 (by decide) ?_
        refine lv_irem hx hb dL_law_260 (by decide) ?_
        refine W.eq (g2 := F0 m 261 ls [.int (nI ((y / 120) % 20))]) (by rw [show nI (y / 120) - nI (y / 120) / 20 * 20 = nI ((y / 120) % 20) from pk_rem (d := 20) (by omega) (by decide) (by decide)]) ?_
        exact B261 z ((y / 120) % 20) H locs ls hz (by omega) hP hD hS (lv_sub hl [1, 2, 3, 4, 5, 6, 7, 8, 9, 10, 11, 12, 13, 14, 0] rfl)
      · refine lv_sipush (v := 1001) hx hb dL_law_252 (by decide) ?_
        refine lv_goto (tgt := 260) hx hb dL_law_255 (by decide) ?_
        refine lv_irem hx hb dL_law_260 (by decide) ?_
        refine W.eq (g2 := F0 m 261 ls [.int (nI ((y / 120) % 1001))]) (by rw [show nI (y / 120) - nI (y / 120) / 1001 * 1001 = nI ((y / 120) % 1001) from pk_rem (d := 1001) (by omega) (by decide) (by decide)]) ?_
        exact B261 z ((y / 120) % 1001) H locs ls hz (by omega) hP hD hS (lv_sub hl [1, 2, 3, 4, 5, 6, 7, 8, 9, 10, 11, 12, 13, 14, 0] rfl)
    · refine lv_iconst (v := 0) hx hb dL_law_235 (by decide) ?_
      refine lv_goto (tgt := 261) hx hb dL_law_236 (by decide) ?_
      exact B261 z 0 H locs ls hz (by omega) hP hD hS (lv_sub hl [1, 2, 3, 4, 5, 6, 7, 8, 9, 10, 11, 12, 13, 14, 0] rfl)
  refine lv_iload hx hb dL_law_196 (lv_at hl 12 rfl) ?_
  refine lv_iconst (v := 5) hx hb dL_law_198 (by decide) ?_
  refine lv_irem hx hb dL_law_199 (by decide) ?_
  refine W.eq (g2 := F0 m 200 ls [.int (nI (y % 5))]) (by rw [show nI y - nI y / 5 * 5 = nI (y % 5) from pk_rem (d := 5) (by omega) (by decide) (by decide)]) ?_
  refine lv_iconst (v := 2) hx hb dL_law_200 (by decide) ?_
  refine x_icmp_ge (tgt := 213) hx hb dL_law_201 (by decide) (fun c_4 => ?_) (fun c_4 => ?_)
  · refine lv_iconst (v := 1) hx hb dL_law_213 (by decide) ?_
    refine lv_iload hx hb dL_law_214 (lv_at hl 12 rfl) ?_
    refine lv_bipush (v := 27) hx hb dL_law_216 (by decide) ?_
    refine lv_idiv hx hb dL_law_218 (by decide) ?_
    refine W.eq (g2 := F0 m 219 ls [.int (nI (y / 27)), .int 1]) (by rw [show nI y / 27 = nI (y / 27) from pk_div (d := 27) (by omega) (by decide) (by decide)]) ?_
    refine lv_bipush (v := 60) hx hb dL_law_219 (by decide) ?_
    refine lv_irem hx hb dL_law_221 (by decide) ?_
    refine W.eq (g2 := F0 m 222 ls [.int (nI ((y / 27) % 60)), .int 1]) (by rw [show nI (y / 27) - nI (y / 27) / 60 * 60 = nI ((y / 27) % 60) from pk_rem (d := 60) (by omega) (by decide) (by decide)]) ?_
    refine lv_iadd hx hb dL_law_222 ?_
    refine W.eq (g2 := F0 m 223 ls [.int (nI (1 + ((y / 27) % 60)))]) (by rw [show (1 : Int32) + nI ((y / 27) % 60) = nI (1 + ((y / 27) % 60)) from nI_add 1 _]) ?_
    exact B223 (1 + ((y / 27) % 60)) H locs ls (by omega) hP hD hS (lv_sub hl [0, 1, 2, 3, 4, 5, 6, 7, 8, 9, 10, 11, 12, 13] rfl)
  · refine lv_iconst (v := 5) hx hb dL_law_204 (by decide) ?_
    refine lv_iload hx hb dL_law_205 (lv_at hl 13 rfl) ?_
    refine lv_iconst (v := 3) hx hb dL_law_207 (by decide) ?_
    refine lv_imul hx hb dL_law_208 ?_
    refine lv_iadd hx hb dL_law_209 ?_
    refine lv_goto (tgt := 223) hx hb dL_law_210 (by decide) ?_
    refine W.eq (g2 := F0 m 223 ls [.int (nI (5 + t * 3))]) (by rw [show (5 : Int32) + nI t * 3 = nI (5 + t * 3) from (by rw [show nI t * 3 = nI (t * 3) from pk_mul t 3]; exact nI_add 5 _)]) ?_
    exact B223 (5 + t * 3) H locs ls (by omega) hP hD hS (lv_sub hl [0, 1, 2, 3, 4, 5, 6, 7, 8, 9, 10, 11, 12, 13] rfl)
set_option maxHeartbeats 4000000 in
set_option maxRecDepth 100000 in
theorem c_pass {p : Program} {l : Launch} {e : Env} {s : State} {m : MethodId} {below : List Frame} {meth : Method} {c : Code} {H : Heap} {locs : List Loc} {cells slots : Nat} {Q : State → Prop} {ls : Array Slot} {A : Nat → Prop} {D : va_G} {cO cI cJ : ClassId} {b L : Nat} {xs : Nat → Int32} {ax ar : Nat} {ad be : Nat → Nat} {n : Nat} {σ : St} {ρ : Nat → Int32} {γ : Nat} (C : LC p l s m meth c A D cO cI cJ b L xs) (hn : n < 100) (hI : SI n σ ρ γ) (y t : Nat) (hy : y < 2 ^ 27) (ht : t < 32) (hcl : cells + 4 ≤ room_1.cells) (hsl : slots + 24 ≤ room_1.slots) (hP : va_P D vwCl (lX be cI cJ (cW ax ar ad cO σ) (σ, ρ, γ)) H) (hD : va_D A (lX be cI cJ (cW ax ar ad cO σ) (σ, ρ, γ))) (hS : va_S A s.heap H locs) (hl : lv_has ls 20 [(0, .ref b), (1, .ref ax), (2, .ref (be 0)), (3, .ref (be 1)), (4, .ref (be 2)), (5, .ref (be 3)), (6, .ref (be 4)), (7, .ref (be 5)), (8, .ref (be 6)), (9, .ref (be 7)), (10, .ref (be 8)), (12, .int (nI n)), (15, .int (nI y)), (16, .int (nI t))])
    (kk : ∀ (σ9 : St) (ρ9 : Nat → Int32) (γ9 : Nat) (H9 : Heap) (locs9 : List Loc) (ls9 : Array Slot), SI (n + 1) σ9 ρ9 γ9 → va_P D vwCl (lX be cI cJ (cW ax ar ad cO σ9) (σ9, ρ9, γ9)) H9 → va_D A (lX be cI cJ (cW ax ar ad cO σ9) (σ9, ρ9, γ9)) → va_S A s.heap H9 locs9 → lv_has ls9 20 [(0, .ref b), (1, .ref ax), (2, .ref (be 0)), (3, .ref (be 1)), (4, .ref (be 2)), (5, .ref (be 3)), (6, .ref (be 4)), (7, .ref (be 5)), (8, .ref (be 6)), (9, .ref (be 7)), (10, .ref (be 8)), (11, .int 1), (12, .int (nI n)), (15, .int (nI y))] → W p l e room_1 s m #[Value.ref b] below meth c H9 locs9 (cells + 4) (slots + 24) Q (F0 m 850 ls9 [])) :
    W p l e room_1 s m #[Value.ref b] below meth c H locs cells slots Q (F0 m 347 ls []) := by
  obtain ⟨hx, hb, hml, hown, hts, hE, hK, hA, hX, hbl, hbA, hfl, hL, hlocks⟩ := C
  have hKc : va_K D vwCl (cT cO) s := hK.sub [2] rfl
  obtain ⟨hV9, ⟨hT1, hT8⟩, L9, hR9, hS9⟩ := id hI
  have hn30 : n < 2 ^ 30 := by omega
  have B368 : ∀ (d : Nat) (H : Heap) (locs : List Loc) (ls : Array Slot), 1 ≤ d ∧ d ≤ 10000 → va_P D vwCl (lX be cI cJ (cW ax ar ad cO σ) (σ, ρ, γ)) H → va_D A (lX be cI cJ (cW ax ar ad cO σ) (σ, ρ, γ)) → va_S A s.heap H locs → lv_has ls 20 [(0, .ref b), (1, .ref ax), (2, .ref (be 0)), (3, .ref (be 1)), (4, .ref (be 2)), (5, .ref (be 3)), (6, .ref (be 4)), (7, .ref (be 5)), (8, .ref (be 6)), (9, .ref (be 7)), (10, .ref (be 8)), (12, .int (nI n)), (15, .int (nI y)), (16, .int (nI t))] → W p l e room_1 s m #[Value.ref b] below meth c H locs (cells) (slots) Q (F0 m 368 ls [.int (nI d)]) := by
    intro d H locs ls hd hP hD hS hl
    have hin9 : inR (nI d) 1 10000 = true := in_N hd (by decide)
    refine lv_istore (lv' := [(17, .int (nI d)), (0, .ref b), (1, .ref ax), (2, .ref (be 0)), (3, .ref (be 1)), (4, .ref (be 2)), (5, .ref (be 3)), (6, .ref (be 4)), (7, .ref (be 5)), (8, .ref (be 6)), (9, .ref (be 7)), (10, .ref (be 8)), (12, .int (nI n)), (15, .int (nI y)), (16, .int (nI t))]) hx hb dL_law_368 hl (by decide) rfl (fun ls hl => ?_)
    refine lv_aload hx hb dL_law_370 (lv_at hl 9 rfl) ?_
    refine lv_iconst (v := 0) hx hb dL_law_372 (by decide) ?_
    refine lv_dup2_11 hx hb dL_law_373 rfl rfl ?_
    refine l_ld6 hx hb hK hP (k := 0) (by decide) (v := gI σ 1) rfl dL_law_374 ?_
    refine lv_iload hx hb dL_law_375 (lv_at hl 0 rfl) ?_
    refine lv_iadd hx hb dL_law_377 ?_
    refine l_st6_0 (v := (gI σ 1) + (nI d)) hx hb hK hP hD hS dL_law_378 (fun H locs hP hD hS => ?_)
    refine lv_aload_n hx hb dL_law_379 rfl (lv_at hl 2 rfl) ?_
    refine lv_iload hx hb dL_law_380 (lv_at hl 0 rfl) ?_
    have hP := P_c (a := lW be cI cJ (uI σ 1 ((gI σ 1) + (nI d)), ρ, γ)) (b := cW ax ar ad cO σ) hP
    have hD := D_c (a := lW be cI cJ (uI σ 1 ((gI σ 1) + (nI d)), ρ, γ)) (b := cW ax ar ad cO σ) hD
    refine ff_calli (vx_runV (As := [.int (nI d)]) (rest := []) ⟨hx, hb, hml, hown, hts⟩ (k_X1_pass l D ax ar ad cO H.size σ (nI d) hfl) (cwV 1 hts gL_law_X1_pass rfl rfl rfl (by decide +kernel) ⟨Nat.le_of_ble_eq_true rfl, Nat.le_of_ble_eq_true rfl⟩) (xPreV xE_ok hE hKc hA (P_l hP) (D_l hD) hS (q0 := 0) (ci := 1) rfl rfl rfl) rfl rfl hl.1 rfl (lv_room (Nat.le_of_ble_eq_true rfl)) dL_law_382 ⟨(by show cells + 1 ≤ room_1.cells; omega), (by show slots + 6 ≤ room_1.slots; omega)⟩) hP hD hS hA (fun En ce q9 H locs hxc hP hS hq9 hv9 hcl8 => ?_) (fun r u H locs hp hP hD hS => ?_)
    · exact absurd (hxc.2.symm.trans hin9) (by decide)
    · obtain ⟨-, rfl, hu9⟩ := hp
      rw [hu9] at hP hD
      have hP : va_P D vwCl (lX be cI cJ (cW ax ar ad cO (uI σ 1 (gI σ 1 + nI d))) (uI σ 1 ((gI σ 1) + (nI d)), ρ, γ)) H := P_c hP
      have hD : va_D A (lX be cI cJ (cW ax ar ad cO (uI σ 1 (gI σ 1 + nI d))) (uI σ 1 ((gI σ 1) + (nI d)), ρ, γ)) := D_c hD
      refine lv_aload hx hb dL_law_385 (lv_at hl 9 rfl) ?_
      refine lv_iconst (v := 0) hx hb dL_law_387 (by decide) ?_
      refine l_ld6 hx hb hK hP (k := 0) (by decide) (v := (gI σ 1) + (nI d)) rfl dL_law_388 ?_
      refine W.eq (g2 := F0 m 389 ls [.int (gI σ 1 + nI d), .int (gI σ 1 + nI d)]) (by rfl) ?_
      refine lv_icmp_ne (tgt := 396) hx hb dL_law_389 (by decide) (fun c9 => absurd (rfl) c9) (fun _ => ?_)
      refine lv_iconst (v := 1) hx hb dL_law_392 (by decide) ?_
      refine lv_goto (tgt := 397) hx hb dL_law_393 (by decide) ?_
      refine lv_istore (lv' := [(11, .int 1), (17, .int (nI d)), (0, .ref b), (1, .ref ax), (2, .ref (be 0)), (3, .ref (be 1)), (4, .ref (be 2)), (5, .ref (be 3)), (6, .ref (be 4)), (7, .ref (be 5)), (8, .ref (be 6)), (9, .ref (be 7)), (10, .ref (be 8)), (12, .int (nI n)), (15, .int (nI y)), (16, .int (nI t))]) hx hb dL_law_397 hl (by decide) rfl (fun ls hl => ?_)
      refine lv_goto (tgt := 850) hx hb dL_law_399 (by decide) ?_
      refine W.widen (k := cells + 4) (n := slots + 24) (by omega) (by omega) ?_
      exact kk (uI σ 1 ((gI σ 1) + (nI d))) ρ γ H locs ls (si_pass hI hn hd.2) hP hD hS (lv_sub hl [2, 3, 4, 5, 6, 7, 8, 9, 10, 11, 12, 0, 13, 14] rfl)
  refine lv_iconst (v := 1) hx hb dL_law_347 (by decide) ?_
  refine lv_iload hx hb dL_law_348 (lv_at hl 12 rfl) ?_
  refine lv_iload hx hb dL_law_350 (lv_at hl 12 rfl) ?_
  refine lv_bipush (v := 9) hx hb dL_law_352 (by decide) ?_
  refine lv_irem hx hb dL_law_354 (by decide) ?_
  refine W.eq (g2 := F0 m 355 ls [.int (nI (y % 9)), .int (nI y), .int 1]) (by rw [show nI y - nI y / 9 * 9 = nI (y % 9) from pk_rem (d := 9) (by omega) (by decide) (by decide)]) ?_
  refine lv_if_ne (tgt := 364) hx hb dL_law_355 (by decide) (fun c_1 => ?_) (fun c_1 => ?_)
  · refine lv_bipush (v := 30) hx hb dL_law_364 (by decide) ?_
    refine lv_irem hx hb dL_law_366 (by decide) ?_
    refine W.eq (g2 := F0 m 367 ls [.int (nI (y % 30)), .int 1]) (by rw [show nI y - nI y / 30 * 30 = nI (y % 30) from pk_rem (d := 30) (by omega) (by decide) (by decide)]) ?_
    refine lv_iadd hx hb dL_law_367 ?_
    refine W.eq (g2 := F0 m 368 ls [.int (nI (1 + (y % 30)))]) (by rw [show (1 : Int32) + nI (y % 30) = nI (1 + (y % 30)) from nI_add 1 _]) ?_
    exact B368 (1 + (y % 30)) H locs ls (by omega) hP hD hS (lv_sub hl [0, 1, 2, 3, 4, 5, 6, 7, 8, 9, 10, 11, 12, 13] rfl)
  · refine lv_sipush (v := 10000) hx hb dL_law_358 (by decide) ?_
    refine lv_goto (tgt := 366) hx hb dL_law_361 (by decide) ?_
    refine lv_irem hx hb dL_law_366 (by decide) ?_
    refine W.eq (g2 := F0 m 367 ls [.int (nI (y % 10000)), .int 1]) (by rw [show nI y - nI y / 10000 * 10000 = nI (y % 10000) from pk_rem (d := 10000) (by omega) (by decide) (by decide)]) ?_
    refine lv_iadd hx hb dL_law_367 ?_
    refine W.eq (g2 := F0 m 368 ls [.int (nI (1 + (y % 10000)))]) (by rw [show (1 : Int32) + nI (y % 10000) = nI (1 + (y % 10000)) from nI_add 1 _]) ?_
    exact B368 (1 + (y % 10000)) H locs ls (by omega) hP hD hS (lv_sub hl [0, 1, 2, 3, 4, 5, 6, 7, 8, 9, 10, 11, 12, 13] rfl)
