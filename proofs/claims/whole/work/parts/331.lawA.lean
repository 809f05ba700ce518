set_option maxHeartbeats 4000000 in
set_option maxRecDepth 100000 in
theorem c_fetch {p : Program} {l : Launch} {e : Env} {s : State} {m : MethodId} {below : List Frame} {meth : Method} {c : Code} {H : Heap} {locs : List Loc} {cells slots : Nat} {Q : State → Prop} {ls : Array Slot} {A : Nat → Prop} {D : va_G} {cO cL cI cJ cZ : ClassId} {b L : Nat} {xs : Nat → Int32} {ax ar : Nat} {ad : Nat → Nat} {bo bx : Nat} {ba : Nat → Nat} {n i : Nat} {σ : St} {v : Int64} (C : LC p l s m meth c A D cO cL cI cJ cZ b L xs) (hn9 : n < 2 ^ 30) (hi : i + 5 ≤ L) (hcl : cells + 4 ≤ 637657) (hsl : slots + 24 ≤ 7183133) (hV : V n σ) (hP : va_P D vwCl (wA ax ar ad cO bo cL bx ba cI cJ cZ σ v) H) (hD : va_D A (wA ax ar ad cO bo cL bx ba cI cJ cZ σ v)) (hS : va_S A s.heap H locs) (hl : lv_has ls 8 [(4, .int (nI i)), (0, .ref b), (1, .ref ax), (2, .ref bx), (3, .ref bo)])
    (kk : ∀ (σ9 : St) (v9 : Int64) (H9 : Heap) (locs9 : List Loc) (ls9 : Array Slot), va_P D vwCl (wA ax ar ad cO bo cL bx ba cI cJ cZ σ9 v9) H9 → va_D A (wA ax ar ad cO bo cL bx ba cI cJ cZ σ9 v9) → va_S A s.heap H9 locs9 → V (n + 1) σ9 → lv_has ls9 8 [(4, .int (nI i)), (0, .ref b), (1, .ref ax), (2, .ref bx), (3, .ref bo)] → W p l e room_1 s m #[Value.ref b] below meth c H9 locs9 (cells + 4) (slots + 24) Q (F0 m 1278 ls9 [])) :
    W p l e room_1 s m #[Value.ref b] below meth c H locs cells slots Q (F0 m 168 ls []) := by
  obtain ⟨hx, hb, hml, hown, hts, hE, hK, hA, hX, hbl, hbA, hfl, hL, hlocks⟩ := C
  have hKw : va_K D vwCl (tL cO cL) s := hK.sub [0, 1] rfl
  have hKc : va_K D vwCl (cT cO) s := hK.sub [0] rfl
  have hKm : va_K D vwCl (mT cI cJ cZ) s := hK.sub [2, 3, 4] rfl
  obtain ⟨N, τ, hh, hg⟩ := g_fetch (v := v) (t := (xs (i + 1))) (sz9 := (xs (i + 2))) (pr := (xs (i + 3))) (lf := (xs (i + 4))) hV hn9
  have eS := Cq_w (Cq_20 (Cq_20 (Cq.rf σ) 0) 0) ax ar ad cO
  have hP : va_P D vwCl (wL ax ar ad cO bo cL ((uI (uI σ 20 0) 20 0), v) ++ mW bx ba cI cJ cZ σ) H := by show va_P D vwCl ((cW ax ar ad cO (uI (uI σ 20 0) 20 0) ++ oW bo cL v) ++ mW bx ba cI cJ cZ σ) H; rw [← eS]; exact hP
  have hD : va_D A (wL ax ar ad cO bo cL ((uI (uI σ 20 0) 20 0), v) ++ mW bx ba cI cJ cZ σ) := by show va_D A ((cW ax ar ad cO (uI (uI σ 20 0) 20 0) ++ oW bo cL v) ++ mW bx ba cI cJ cZ σ); rw [← eS]; exact hD
  refine lv_aload_n hx hb dL_law_168 rfl (lv_at hl 2 rfl) ?_
  refine s_arg (k := 1) hx hb hX hbl hbA hS hL (by omega) (lv_at hl 1 rfl) (lv_at hl 0 rfl) (by decide) dL_law_169 dL_law_170 dL_law_172 dL_law_173 dL_law_174 ?_
  refine s_arg (k := 2) hx hb hX hbl hbA hS hL (by omega) (lv_at hl 1 rfl) (lv_at hl 0 rfl) (by decide) dL_law_175 dL_law_176 dL_law_178 dL_law_179 dL_law_180 ?_
  refine s_arg (k := 3) hx hb hX hbl hbA hS hL (by omega) (lv_at hl 1 rfl) (lv_at hl 0 rfl) (by decide) dL_law_181 dL_law_182 dL_law_184 dL_law_185 dL_law_186 ?_
  refine s_arg (k := 4) hx hb hX hbl hbA hS hL (by omega) (lv_at hl 1 rfl) (lv_at hl 0 rfl) (by decide) dL_law_187 dL_law_188 dL_law_190 dL_law_191 dL_law_192 ?_
  refine lv_aload_n hx hb dL_law_193 rfl (lv_at hl 4 rfl) ?_
  refine f_calli (vx_runSW (As := [.ref ax, .int (xs (i + 1)), .int (xs (i + 2)), .int (xs (i + 3)), .int (xs (i + 4)), .ref bo]) (rest := []) ⟨hx, hb, hml, hown, hts⟩ (k_L_fetch l D ax ar ad cO bo cL H.size (uI (uI σ 20 0) 20 0) v (xs (i + 1)) (xs (i + 2)) (xs (i + 3)) (xs (i + 4)) hfl) (vx_cwSW 6 hts gL_law_L_fetch rfl rfl rfl (by decide +kernel) ⟨Nat.le_of_ble_eq_true rfl, Nat.le_of_ble_eq_true rfl⟩) (xPreS xE_ok hE hKw hA (P_l hP) (D_l hD) hS) rfl rfl hl.1 rfl (lv_room (Nat.le_of_ble_eq_true rfl)) dL_law_194 ⟨(by show cells + 4 ≤ 637657; omega), (by show slots + 24 ≤ 7183133; omega)⟩) hP hD hS hA (fun r u1 H locs h1 hP hD hS => ?_)
  refine lv_istore (lv' := [(5, .int r), (4, .int (nI i)), (0, .ref b), (1, .ref ax), (2, .ref bx), (3, .ref bo)]) hx hb dL_law_197 hl (by decide) rfl (fun ls hl => ?_)
  refine lv_aload_n hx hb dL_law_199 rfl (lv_at hl 4 rfl) ?_
  refine s_arg (k := 1) hx hb hX hbl hbA hS hL (by omega) (lv_at hl 2 rfl) (lv_at hl 1 rfl) (by decide) dL_law_200 dL_law_201 dL_law_203 dL_law_204 dL_law_205 ?_
  refine s_arg (k := 2) hx hb hX hbl hbA hS hL (by omega) (lv_at hl 2 rfl) (lv_at hl 1 rfl) (by decide) dL_law_206 dL_law_207 dL_law_209 dL_law_210 dL_law_211 ?_
  refine s_arg (k := 3) hx hb hX hbl hbA hS hL (by omega) (lv_at hl 2 rfl) (lv_at hl 1 rfl) (by decide) dL_law_212 dL_law_213 dL_law_215 dL_law_216 dL_law_217 ?_
  refine s_arg (k := 4) hx hb hX hbl hbA hS hL (by omega) (lv_at hl 2 rfl) (lv_at hl 1 rfl) (by decide) dL_law_218 dL_law_219 dL_law_221 dL_law_222 dL_law_223 ?_
  have hP := P_c hP
  have hD := D_c hD
  refine f_calli (va_runV (As := [.int (xs (i + 1)), .int (xs (i + 2)), .int (xs (i + 3)), .int (xs (i + 4))]) (rest := []) ⟨hx, hb, hml, hown, hts⟩ (k_X2_fetch l D bx ba cI cJ cZ H.size σ (xs (i + 1)) (xs (i + 2)) (xs (i + 3)) (xs (i + 4)) N τ hh) (cwV 4 hts gL_law_X2_fetch rfl rfl rfl (by decide +kernel) ⟨Nat.le_of_ble_eq_true rfl, Nat.le_of_ble_eq_true rfl⟩) (xPreV mE_ok trivial hKm hA (P_l hP) (D_l hD) hS (q0 := 0) (ci := 2) rfl rfl rfl) rfl rfl hl.1 rfl (lv_room (Nat.le_of_ble_eq_true rfl)) dL_law_224 ⟨(by show cells + 4 + 0 ≤ 637657; omega), (by show slots + 24 + 0 ≤ 7183133; omega)⟩) hP hD hS hA (fun r2 u2 H locs h2 hP hD hS => ?_)
  obtain ⟨g1, g2, g3, g4⟩ := hg r u1 r2 u2 h1 h2
  refine lv_istore (lv' := [(6, .int r2), (5, .int r), (4, .int (nI i)), (0, .ref b), (1, .ref ax), (2, .ref bx), (3, .ref bo)]) hx hb dL_law_227 hl (by decide) rfl (fun ls hl => ?_)
  refine lv_aload_n hx hb dL_law_229 rfl (lv_at hl 5 rfl) ?_
  refine f_calli (va_runV (As := []) (rest := []) ⟨hx, hb, hml, hown, hts⟩ (k_X2_thrown l D bx ba cI cJ cZ H.size u2) (cwV 0 hts gL_law_X2_thrown rfl rfl rfl (by decide +kernel) ⟨Nat.le_of_ble_eq_true rfl, Nat.le_of_ble_eq_true rfl⟩) (xPreV mE_ok trivial hKm hA (P_l hP) (D_l hD) hS (q0 := 0) (ci := 2) rfl rfl rfl) rfl rfl hl.1 rfl (lv_room (Nat.le_of_ble_eq_true rfl)) dL_law_230 ⟨(by show cells + 4 + 0 + 0 ≤ 637657; omega), (by show slots + 24 + 0 + 0 ≤ 7183133; omega)⟩) hP hD hS hA (fun r3 u3 H locs h3 hP hD hS => ?_)
  obtain ⟨e3, eu3⟩ := h3
  rw [eu3] at hP hD
  have hP := P_c hP
  have hD := D_c hD
  have eW := Cq_w g1 ax ar ad cO
  have hP : va_P D vwCl (wA ax ar ad cO bo cL bx ba cI cJ cZ u2 u1.2) H := by show va_P D vwCl ((cW ax ar ad cO u2 ++ oW bo cL u1.2) ++ mW bx ba cI cJ cZ u2) H; rw [← eW]; exact hP
  have hD : va_D A (wA ax ar ad cO bo cL bx ba cI cJ cZ u2 u1.2) := by show va_D A ((cW ax ar ad cO u2 ++ oW bo cL u1.2) ++ mW bx ba cI cJ cZ u2); rw [← eW]; exact hD
  refine W.widen (k := cells + 4) (n := slots + 24) (by omega) (by omega) ?_
  refine lv_iload hx hb dL_law_233 (lv_at hl 1 rfl) ?_
  refine lv_icmp_eq (tgt := 240) hx hb dL_law_235 (by decide) (fun _ => ?_) (fun q => absurd (e3.trans g3.symm) q)
  refine lv_iload hx hb dL_law_240 (lv_at hl 1 rfl) ?_
  refine lv_if_ne (tgt := 257) hx hb dL_law_242 (by decide) (fun _ => ?_) (fun q0 => ?_)
  · refine lv_goto (tgt := 1278) hx hb dL_law_257 (by decide) ?_
    exact kk u2 u1.2 _ _ _ hP hD hS g2 (lv_sub hl [2, 3, 4, 5, 6] rfl)
  · refine lv_aload_n hx hb dL_law_245 rfl (lv_at hl 6 rfl) ?_
    refine lv_iconst (v := 0) hx hb dL_law_246 (by decide) ?_
    refine va_lald hx hb hK (P_r (P_l hP)) 0 1 rfl rfl (by unfold vp_in; decide) dL_law_247 ?_
    refine lv_iload hx hb dL_law_248 (lv_at hl 0 rfl) ?_
    refine lv_i2l hx hb dL_law_250 rfl ?_
    refine x_eq (tgt := 257) hx hb dL_law_251 dL_law_252 (by decide) (fun _ => ?_) (fun q9 => absurd (g4 q0) q9)
    refine lv_goto (tgt := 1278) hx hb dL_law_257 (by decide) ?_
    exact kk u2 u1.2 _ _ _ hP hD hS g2 (lv_sub hl [2, 3, 4, 5, 6] rfl)

set_option maxHeartbeats 4000000 in
set_option maxRecDepth 100000 in
theorem c_pass {p : Program} {l : Launch} {e : Env} {s : State} {m : MethodId} {below : List Frame} {meth : Method} {c : Code} {H : Heap} {locs : List Loc} {cells slots : Nat} {Q : State → Prop} {ls : Array Slot} {A : Nat → Prop} {D : va_G} {cO cL cI cJ cZ : ClassId} {b L : Nat} {xs : Nat → Int32} {ax ar : Nat} {ad : Nat → Nat} {bo bx : Nat} {ba : Nat → Nat} {n i : Nat} {σ : St} {v : Int64} (C : LC p l s m meth c A D cO cL cI cJ cZ b L xs) (hn9 : n < 2 ^ 30) (hi : i + 5 ≤ L) (hcl : cells + 4 ≤ 637657) (hsl : slots + 24 ≤ 7183133) (hV : V n σ) (hP : va_P D vwCl (wA ax ar ad cO bo cL bx ba cI cJ cZ σ v) H) (hD : va_D A (wA ax ar ad cO bo cL bx ba cI cJ cZ σ v)) (hS : va_S A s.heap H locs) (hl : lv_has ls 8 [(4, .int (nI i)), (0, .ref b), (1, .ref ax), (2, .ref bx), (3, .ref bo)])
    (kk : ∀ (σ9 : St) (v9 : Int64) (H9 : Heap) (locs9 : List Loc) (ls9 : Array Slot), va_P D vwCl (wA ax ar ad cO bo cL bx ba cI cJ cZ σ9 v9) H9 → va_D A (wA ax ar ad cO bo cL bx ba cI cJ cZ σ9 v9) → va_S A s.heap H9 locs9 → V (n + 1) σ9 → lv_has ls9 8 [(4, .int (nI i)), (0, .ref b), (1, .ref ax), (2, .ref bx), (3, .ref bo)] → W p l e room_1 s m #[Value.ref b] below meth c H9 locs9 (cells + 4) (slots + 24) Q (F0 m 1278 ls9 [])) :
    W p l e room_1 s m #[Value.ref b] below meth c H locs cells slots Q (F0 m 260 ls []) := by
  obtain ⟨hx, hb, hml, hown, hts, hE, hK, hA, hX, hbl, hbA, hfl, hL, hlocks⟩ := C
  have hKw : va_K D vwCl (tL cO cL) s := hK.sub [0, 1] rfl
  have hKc : va_K D vwCl (cT cO) s := hK.sub [0] rfl
  have hKm : va_K D vwCl (mT cI cJ cZ) s := hK.sub [2, 3, 4] rfl
  have eS := Cq_w (Cq_20 (Cq.rf σ) 0) ax ar ad cO
  have hP : va_P D vwCl (wL ax ar ad cO bo cL ((uI σ 20 0), v) ++ mW bx ba cI cJ cZ σ) H := by show va_P D vwCl ((cW ax ar ad cO (uI σ 20 0) ++ oW bo cL v) ++ mW bx ba cI cJ cZ σ) H; rw [← eS]; exact hP
  have hD : va_D A (wL ax ar ad cO bo cL ((uI σ 20 0), v) ++ mW bx ba cI cJ cZ σ) := by show va_D A ((cW ax ar ad cO (uI σ 20 0) ++ oW bo cL v) ++ mW bx ba cI cJ cZ σ); rw [← eS]; exact hD
  refine lv_aload_n hx hb dL_law_260 rfl (lv_at hl 2 rfl) ?_
  refine s_arg (k := 1) hx hb hX hbl hbA hS hL (by omega) (lv_at hl 1 rfl) (lv_at hl 0 rfl) (by decide) dL_law_261 dL_law_262 dL_law_264 dL_law_265 dL_law_266 ?_
  refine lv_aload_n hx hb dL_law_267 rfl (lv_at hl 4 rfl) ?_
  refine f_calli (vx_runSW (As := [.ref ax, .int (xs (i + 1)), .ref bo]) (rest := []) ⟨hx, hb, hml, hown, hts⟩ (k_L_pass l D ax ar ad cO bo cL H.size (uI σ 20 0) v (xs (i + 1)) hfl) (vx_cwSW 3 hts gL_law_L_pass rfl rfl rfl (by decide +kernel) ⟨Nat.le_of_ble_eq_true rfl, Nat.le_of_ble_eq_true rfl⟩) (xPreS xE_ok hE hKw hA (P_l hP) (D_l hD) hS) rfl rfl hl.1 rfl (lv_room (Nat.le_of_ble_eq_true rfl)) dL_law_268 ⟨(by show cells + 1 ≤ 637657; omega), (by show slots + 6 ≤ 7183133; omega)⟩) hP hD hS hA (fun r u1 H locs h1 hP hD hS => ?_)
  refine lv_istore (lv' := [(5, .int r), (4, .int (nI i)), (0, .ref b), (1, .ref ax), (2, .ref bx), (3, .ref bo)]) hx hb dL_law_271 hl (by decide) rfl (fun ls hl => ?_)
  refine lv_aload_n hx hb dL_law_273 rfl (lv_at hl 4 rfl) ?_
  refine s_arg (k := 1) hx hb hX hbl hbA hS hL (by omega) (lv_at hl 2 rfl) (lv_at hl 1 rfl) (by decide) dL_law_274 dL_law_275 dL_law_277 dL_law_278 dL_law_279 ?_
  have hP := P_c hP
  have hD := D_c hD
  refine f_calli (va_runV (As := [.int (xs (i + 1))]) (rest := []) ⟨hx, hb, hml, hown, hts⟩ (k_X2_pass l D bx ba cI cJ cZ H.size σ (xs (i + 1))) (cwV 1 hts gL_law_X2_pass rfl rfl rfl (by decide +kernel) ⟨Nat.le_of_ble_eq_true rfl, Nat.le_of_ble_eq_true rfl⟩) (xPreV mE_ok trivial hKm hA (P_l hP) (D_l hD) hS (q0 := 0) (ci := 2) rfl rfl rfl) rfl rfl hl.1 rfl (lv_room (Nat.le_of_ble_eq_true rfl)) dL_law_280 ⟨(by show cells + 1 + 0 ≤ 637657; omega), (by show slots + 6 + 0 ≤ 7183133; omega)⟩) hP hD hS hA (fun r2 u2 H locs h2 hP hD hS => ?_)
  obtain ⟨g1, g2, g3, g4⟩ := g_pass hV h1 h2
  refine lv_istore (lv' := [(6, .int r2), (5, .int r), (4, .int (nI i)), (0, .ref b), (1, .ref ax), (2, .ref bx), (3, .ref bo)]) hx hb dL_law_283 hl (by decide) rfl (fun ls hl => ?_)
  refine lv_aload_n hx hb dL_law_285 rfl (lv_at hl 5 rfl) ?_
  refine f_calli (va_runV (As := []) (rest := []) ⟨hx, hb, hml, hown, hts⟩ (k_X2_thrown l D bx ba cI cJ cZ H.size u2) (cwV 0 hts gL_law_X2_thrown rfl rfl rfl (by decide +kernel) ⟨Nat.le_of_ble_eq_true rfl, Nat.le_of_ble_eq_true rfl⟩) (xPreV mE_ok trivial hKm hA (P_l hP) (D_l hD) hS (q0 := 0) (ci := 2) rfl rfl rfl) rfl rfl hl.1 rfl (lv_room (Nat.le_of_ble_eq_true rfl)) dL_law_286 ⟨(by show cells + 1 + 0 + 0 ≤ 637657; omega), (by show slots + 6 + 0 + 0 ≤ 7183133; omega)⟩) hP hD hS hA (fun r3 u3 H locs h3 hP hD hS => ?_)
  obtain ⟨e3, eu3⟩ := h3
  rw [eu3] at hP hD
  have hP := P_c hP
  have hD := D_c hD
  have eW := Cq_w g1 ax ar ad cO
  have hP : va_P D vwCl (wA ax ar ad cO bo cL bx ba cI cJ cZ u2 u1.2) H := by show va_P D vwCl ((cW ax ar ad cO u2 ++ oW bo cL u1.2) ++ mW bx ba cI cJ cZ u2) H; rw [← eW]; exact hP
  have hD : va_D A (wA ax ar ad cO bo cL bx ba cI cJ cZ u2 u1.2) := by show va_D A ((cW ax ar ad cO u2 ++ oW bo cL u1.2) ++ mW bx ba cI cJ cZ u2); rw [← eW]; exact hD
  refine W.widen (k := cells + 4) (n := slots + 24) (by omega) (by omega) ?_
  refine lv_iload hx hb dL_law_289 (lv_at hl 1 rfl) ?_
  refine lv_icmp_eq (tgt := 296) hx hb dL_law_291 (by decide) (fun _ => ?_) (fun q => absurd (e3.trans g3.symm) q)
  refine lv_iload hx hb dL_law_296 (lv_at hl 1 rfl) ?_
  refine lv_if_ne (tgt := 313) hx hb dL_law_298 (by decide) (fun _ => ?_) (fun q0 => ?_)
  · refine lv_goto (tgt := 1278) hx hb dL_law_313 (by decide) ?_
    exact kk u2 u1.2 _ _ _ hP hD hS g2 (lv_sub hl [2, 3, 4, 5, 6] rfl)
  · refine lv_aload_n hx hb dL_law_301 rfl (lv_at hl 6 rfl) ?_
    refine lv_iconst (v := 0) hx hb dL_law_302 (by decide) ?_
    refine va_lald hx hb hK (P_r (P_l hP)) 0 1 rfl rfl (by unfold vp_in; decide) dL_law_303 ?_
    refine lv_iload hx hb dL_law_304 (lv_at hl 0 rfl) ?_
    refine lv_i2l hx hb dL_law_306 rfl ?_
    refine x_eq (tgt := 313) hx hb dL_law_307 dL_law_308 (by decide) (fun _ => ?_) (fun q9 => absurd (g4 q0) q9)
    refine lv_goto (tgt := 1278) hx hb dL_law_313 (by decide) ?_
    exact kk u2 u1.2 _ _ _ hP hD hS g2 (lv_sub hl [2, 3, 4, 5, 6] rfl)

set_option maxHeartbeats 4000000 in
set_option maxRecDepth 100000 in
theorem c_pin {p : Program} {l : Launch} {e : Env} {s : State} {m : MethodId} {below : List Frame} {meth : Method} {c : Code} {H : Heap} {locs : List Loc} {cells slots : Nat} {Q : State → Prop} {ls : Array Slot} {A : Nat → Prop} {D : va_G} {cO cL cI cJ cZ : ClassId} {b L : Nat} {xs : Nat → Int32} {ax ar : Nat} {ad : Nat → Nat} {bo bx : Nat} {ba : Nat → Nat} {n i : Nat} {σ : St} {v : Int64} (C : LC p l s m meth c A D cO cL cI cJ cZ b L xs) (hn9 : n < 2 ^ 30) (hi : i + 5 ≤ L) (hcl : cells + 4 ≤ 637657) (hsl : slots + 24 ≤ 7183133) (hV : V n σ) (hP : va_P D vwCl (wA ax ar ad cO bo cL bx ba cI cJ cZ σ v) H) (hD : va_D A (wA ax ar ad cO bo cL bx ba cI cJ cZ σ v)) (hS : va_S A s.heap H locs) (hl : lv_has ls 8 [(4, .int (nI i)), (0, .ref b), (1, .ref ax), (2, .ref bx), (3, .ref bo)])
    (kk : ∀ (σ9 : St) (v9 : Int64) (H9 : Heap) (locs9 : List Loc) (ls9 : Array Slot), va_P D vwCl (wA ax ar ad cO bo cL bx ba cI cJ cZ σ9 v9) H9 → va_D A (wA ax ar ad cO bo cL bx ba cI cJ cZ σ9 v9) → va_S A s.heap H9 locs9 → V (n + 1) σ9 → lv_has ls9 8 [(4, .int (nI i)), (0, .ref b), (1, .ref ax), (2, .ref bx), (3, .ref bo)] → W p l e room_1 s m #[Value.ref b] below meth c H9 locs9 (cells + 4) (slots + 24) Q (F0 m 1278 ls9 [])) :
    W p l e room_1 s m #[Value.ref b] below meth c H locs cells slots Q (F0 m 316 ls []) := by
  obtain ⟨hx, hb, hml, hown, hts, hE, hK, hA, hX, hbl, hbA, hfl, hL, hlocks⟩ := C
  have hKw : va_K D vwCl (tL cO cL) s := hK.sub [0, 1] rfl
  have hKc : va_K D vwCl (cT cO) s := hK.sub [0] rfl
  have hKm : va_K D vwCl (mT cI cJ cZ) s := hK.sub [2, 3, 4] rfl
  have eS := Cq_w (Cq_20 (Cq_20 (Cq.rf σ) 0) 0) ax ar ad cO
  have hP : va_P D vwCl (wL ax ar ad cO bo cL ((uI (uI σ 20 0) 20 0), v) ++ mW bx ba cI cJ cZ σ) H := by show va_P D vwCl ((cW ax ar ad cO (uI (uI σ 20 0) 20 0) ++ oW bo cL v) ++ mW bx ba cI cJ cZ σ) H; rw [← eS]; exact hP
  have hD : va_D A (wL ax ar ad cO bo cL ((uI (uI σ 20 0) 20 0), v) ++ mW bx ba cI cJ cZ σ) := by show va_D A ((cW ax ar ad cO (uI (uI σ 20 0) 20 0) ++ oW bo cL v) ++ mW bx ba cI cJ cZ σ); rw [← eS]; exact hD
  refine lv_aload_n hx hb dL_law_316 rfl (lv_at hl 2 rfl) ?_
  refine s_arg (k := 1) hx hb hX hbl hbA hS hL (by omega) (lv_at hl 1 rfl) (lv_at hl 0 rfl) (by decide) dL_law_317 dL_law_318 dL_law_320 dL_law_321 dL_law_322 ?_
  refine s_arg (k := 2) hx hb hX hbl hbA hS hL (by omega) (lv_at hl 1 rfl) (lv_at hl 0 rfl) (by decide) dL_law_323 dL_law_324 dL_law_326 dL_law_327 dL_law_328 ?_
  refine s_b01 hx hb dL_law_329 dL_law_332 dL_law_333 dL_law_336 ?_
  refine lv_aload_n hx hb dL_law_337 rfl (lv_at hl 4 rfl) ?_
  refine f_calli (vx_runSW (As := [.ref ax, .int (xs (i + 1)), .int (bI (!decide ((xs (i + 2)) = 0))), .ref bo]) (rest := []) ⟨hx, hb, hml, hown, hts⟩ (k_L_pin l D ax ar ad cO bo cL H.size (uI (uI σ 20 0) 20 0) v (xs (i + 1)) (!decide ((xs (i + 2)) = 0)) hfl) (vx_cwSW 4 hts gL_law_L_pin rfl rfl rfl (by decide +kernel) ⟨Nat.le_of_ble_eq_true rfl, Nat.le_of_ble_eq_true rfl⟩) (xPreS xE_ok hE hKw hA (P_l hP) (D_l hD) hS) rfl rfl hl.1 rfl (lv_room (Nat.le_of_ble_eq_true rfl)) dL_law_338 ⟨(by show cells + 2 ≤ 637657; omega), (by show slots + 12 ≤ 7183133; omega)⟩) hP hD hS hA (fun r u1 H locs h1 hP hD hS => ?_)
  refine lv_istore (lv' := [(5, .int r), (4, .int (nI i)), (0, .ref b), (1, .ref ax), (2, .ref bx), (3, .ref bo)]) hx hb dL_law_341 hl (by decide) rfl (fun ls hl => ?_)
  refine lv_aload_n hx hb dL_law_343 rfl (lv_at hl 4 rfl) ?_
  refine s_arg (k := 1) hx hb hX hbl hbA hS hL (by omega) (lv_at hl 2 rfl) (lv_at hl 1 rfl) (by decide) dL_law_344 dL_law_345 dL_law_347 dL_law_348 dL_law_349 ?_
  refine s_arg (k := 2) hx hb hX hbl hbA hS hL (by omega) (lv_at hl 2 rfl) (lv_at hl 1 rfl) (by decide) dL_law_350 dL_law_351 dL_law_353 dL_law_354 dL_law_355 ?_
  refine s_b01 hx hb dL_law_356 dL_law_359 dL_law_360 dL_law_363 ?_
  have hP := P_c hP
  have hD := D_c hD
  refine f_calli (va_runV (As := [.int (xs (i + 1)), .int (bI (!decide ((xs (i + 2)) = 0)))]) (rest := []) ⟨hx, hb, hml, hown, hts⟩ (k_X2_pin l D bx ba cI cJ cZ H.size σ (xs (i + 1)) (!decide ((xs (i + 2)) = 0))) (cwV 2 hts gL_law_X2_pin rfl rfl rfl (by decide +kernel) ⟨Nat.le_of_ble_eq_true rfl, Nat.le_of_ble_eq_true rfl⟩) (xPreV mE_ok trivial hKm hA (P_l hP) (D_l hD) hS (q0 := 0) (ci := 2) rfl rfl rfl) rfl rfl hl.1 rfl (lv_room (Nat.le_of_ble_eq_true rfl)) dL_law_364 ⟨(by show cells + 2 + 0 ≤ 637657; omega), (by show slots + 12 + 0 ≤ 7183133; omega)⟩) hP hD hS hA (fun r2 u2 H locs h2 hP hD hS => ?_)
  obtain ⟨g1, g2, g3, g4⟩ := g_pin hV h1 h2
  refine lv_istore (lv' := [(6, .int r2), (5, .int r), (4, .int (nI i)), (0, .ref b), (1, .ref ax), (2, .ref bx), (3, .ref bo)]) hx hb dL_law_367 hl (by decide) rfl (fun ls hl => ?_)
  refine lv_aload_n hx hb dL_law_369 rfl (lv_at hl 5 rfl) ?_
  refine f_calli (va_runV (As := []) (rest := []) ⟨hx, hb, hml, hown, hts⟩ (k_X2_thrown l D bx ba cI cJ cZ H.size u2) (cwV 0 hts gL_law_X2_thrown rfl rfl rfl (by decide +kernel) ⟨Nat.le_of_ble_eq_true rfl, Nat.le_of_ble_eq_true rfl⟩) (xPreV mE_ok trivial hKm hA (P_l hP) (D_l hD) hS (q0 := 0) (ci := 2) rfl rfl rfl) rfl rfl hl.1 rfl (lv_room (Nat.le_of_ble_eq_true rfl)) dL_law_370 ⟨(by show cells + 2 + 0 + 0 ≤ 637657; omega), (by show slots + 12 + 0 + 0 ≤ 7183133; omega)⟩) hP hD hS hA (fun r3 u3 H locs h3 hP hD hS => ?_)
  obtain ⟨e3, eu3⟩ := h3
  rw [eu3] at hP hD
  have hP := P_c hP
  have hD := D_c hD
  have eW := Cq_w g1 ax ar ad cO
  have hP : va_P D vwCl (wA ax ar ad cO bo cL bx ba cI cJ cZ u2 u1.2) H := by show va_P D vwCl ((cW ax ar ad cO u2 ++ oW bo cL u1.2) ++ mW bx ba cI cJ cZ u2) H; rw [← eW]; exact hP
  have hD : va_D A (wA ax ar ad cO bo cL bx ba cI cJ cZ u2 u1.2) := by show va_D A ((cW ax ar ad cO u2 ++ oW bo cL u1.2) ++ mW bx ba cI cJ cZ u2); rw [← eW]; exact hD
  refine W.widen (k := cells + 4) (n := slots + 24) (by omega) (by omega) ?_
  refine lv_iload hx hb dL_law_373 (lv_at hl 1 rfl) ?_
  refine lv_icmp_eq (tgt := 380) hx hb dL_law_375 (by decide) (fun _ => ?_) (fun q => absurd (e3.trans g3.symm) q)
  refine lv_iload hx hb dL_law_380 (lv_at hl 1 rfl) ?_
  refine lv_if_ne (tgt := 404) hx hb dL_law_382 (by decide) (fun _ => ?_) (fun q0 => ?_)
  · refine lv_goto (tgt := 1278) hx hb dL_law_404 (by decide) ?_
    exact kk u2 u1.2 _ _ _ hP hD hS g2 (lv_sub hl [2, 3, 4, 5, 6] rfl)
  · refine lv_aload_n hx hb dL_law_385 rfl (lv_at hl 6 rfl) ?_
    refine lv_iconst (v := 0) hx hb dL_law_386 (by decide) ?_
    refine va_lald hx hb hK (P_r (P_l hP)) 0 1 rfl rfl (by unfold vp_in; decide) dL_law_387 ?_
    refine lv_iload hx hb dL_law_388 (lv_at hl 0 rfl) ?_
    refine s_l01 hx hb dL_law_390 dL_law_393 dL_law_394 dL_law_397 ?_
    refine x_eq (tgt := 404) hx hb dL_law_398 dL_law_399 (by decide) (fun _ => ?_) (fun q9 => absurd (g4 q0) q9)
    refine lv_goto (tgt := 1278) hx hb dL_law_404 (by decide) ?_
    exact kk u2 u1.2 _ _ _ hP hD hS g2 (lv_sub hl [2, 3, 4, 5, 6] rfl)

set_option maxHeartbeats 4000000 in
set_option maxRecDepth 100000 in
theorem c_drop {p : Program} {l : Launch} {e : Env} {s : State} {m : MethodId} {below : List Frame} {meth : Method} {c : Code} {H : Heap} {locs : List Loc} {cells slots : Nat} {Q : State → Prop} {ls : Array Slot} {A : Nat → Prop} {D : va_G} {cO cL cI cJ cZ : ClassId} {b L : Nat} {xs : Nat → Int32} {ax ar : Nat} {ad : Nat → Nat} {bo bx : Nat} {ba : Nat → Nat} {n i : Nat} {σ : St} {v : Int64} (C : LC p l s m meth c A D cO cL cI cJ cZ b L xs) (hn9 : n < 2 ^ 30) (hi : i + 5 ≤ L) (hcl : cells + 4 ≤ 637657) (hsl : slots + 24 ≤ 7183133) (hV : V n σ) (hP : va_P D vwCl (wA ax ar ad cO bo cL bx ba cI cJ cZ σ v) H) (hD : va_D A (wA ax ar ad cO bo cL bx ba cI cJ cZ σ v)) (hS : va_S A s.heap H locs) (hl : lv_has ls 8 [(4, .int (nI i)), (0, .ref b), (1, .ref ax), (2, .ref bx), (3, .ref bo)])
    (kk : ∀ (σ9 : St) (v9 : Int64) (H9 : Heap) (locs9 : List Loc) (ls9 : Array Slot), va_P D vwCl (wA ax ar ad cO bo cL bx ba cI cJ cZ σ9 v9) H9 → va_D A (wA ax ar ad cO bo cL bx ba cI cJ cZ σ9 v9) → va_S A s.heap H9 locs9 → V (n + 1) σ9 → lv_has ls9 8 [(4, .int (nI i)), (0, .ref b), (1, .ref ax), (2, .ref bx), (3, .ref bo)] → W p l e room_1 s m #[Value.ref b] below meth c H9 locs9 (cells + 4) (slots + 24) Q (F0 m 1278 ls9 [])) :
    W p l e room_1 s m #[Value.ref b] below meth c H locs cells slots Q (F0 m 407 ls []) := by
  obtain ⟨hx, hb, hml, hown, hts, hE, hK, hA, hX, hbl, hbA, hfl, hL, hlocks⟩ := C
  have hKw : va_K D vwCl (tL cO cL) s := hK.sub [0, 1] rfl
  have hKc : va_K D vwCl (cT cO) s := hK.sub [0] rfl
  have hKm : va_K D vwCl (mT cI cJ cZ) s := hK.sub [2, 3, 4] rfl
  have eS := Cq_w (Cq_20 (Cq_20 (Cq.rf σ) 0) 0) ax ar ad cO
  have hP : va_P D vwCl (wL ax ar ad cO bo cL ((uI (uI σ 20 0) 20 0), v) ++ mW bx ba cI cJ cZ σ) H := by show va_P D vwCl ((cW ax ar ad cO (uI (uI σ 20 0) 20 0) ++ oW bo cL v) ++ mW bx ba cI cJ cZ σ) H; rw [← eS]; exact hP
  have hD : va_D A (wL ax ar ad cO bo cL ((uI (uI σ 20 0) 20 0), v) ++ mW bx ba cI cJ cZ σ) := by show va_D A ((cW ax ar ad cO (uI (uI σ 20 0) 20 0) ++ oW bo cL v) ++ mW bx ba cI cJ cZ σ); rw [← eS]; exact hD
  refine lv_aload_n hx hb dL_law_407 rfl (lv_at hl 2 rfl) ?_
  refine s_arg (k := 1) hx hb hX hbl hbA hS hL (by omega) (lv_at hl 1 rfl) (lv_at hl 0 rfl) (by decide) dL_law_408 dL_law_409 dL_law_411 dL_law_412 dL_law_413 ?_
  refine lv_aload_n hx hb dL_law_414 rfl (lv_at hl 4 rfl) ?_
  refine f_calli (vx_runSW (As := [.ref ax, .int (xs (i + 1)), .ref bo]) (rest := []) ⟨hx, hb, hml, hown, hts⟩ (k_L_drop l D ax ar ad cO bo cL H.size (uI (uI σ 20 0) 20 0) v (xs (i + 1)) hfl) (vx_cwSW 3 hts gL_law_L_drop rfl rfl rfl (by decide +kernel) ⟨Nat.le_of_ble_eq_true rfl, Nat.le_of_ble_eq_true rfl⟩) (xPreS xE_ok hE hKw hA (P_l hP) (D_l hD) hS) rfl rfl hl.1 rfl (lv_room (Nat.le_of_ble_eq_true rfl)) dL_law_415 ⟨(by show cells + 2 ≤ 637657; omega), (by show slots + 12 ≤ 7183133; omega)⟩) hP hD hS hA (fun r u1 H locs h1 hP hD hS => ?_)
  refine lv_istore (lv' := [(5, .int r), (4, .int (nI i)), (0, .ref b), (1, .ref ax), (2, .ref bx), (3, .ref bo)]) hx hb dL_law_418 hl (by decide) rfl (fun ls hl => ?_)
  refine lv_aload_n hx hb dL_law_420 rfl (lv_at hl 4 rfl) ?_
  refine s_arg (k := 1) hx hb hX hbl hbA hS hL (by omega) (lv_at hl 2 rfl) (lv_at hl 1 rfl) (by decide) dL_law_421 dL_law_422 dL_law_424 dL_law_425 dL_law_426 ?_
  have hP := P_c hP
  have hD := D_c hD
  refine f_calli (va_runV (As := [.int (xs (i + 1))]) (rest := []) ⟨hx, hb, hml, hown, hts⟩ (k_X2_drop l D bx ba cI cJ cZ H.size σ (xs (i + 1))) (cwV 1 hts gL_law_X2_drop rfl rfl rfl (by decide +kernel) ⟨Nat.le_of_ble_eq_true rfl, Nat.le_of_ble_eq_true rfl⟩) (xPreV mE_ok trivial hKm hA (P_l hP) (D_l hD) hS (q0 := 0) (ci := 2) rfl rfl rfl) rfl rfl hl.1 rfl (lv_room (Nat.le_of_ble_eq_true rfl)) dL_law_427 ⟨(by show cells + 2 + 0 ≤ 637657; omega), (by show slots + 12 + 0 ≤ 7183133; omega)⟩) hP hD hS hA (fun r2 u2 H locs h2 hP hD hS => ?_)
  obtain ⟨g1, g2, g3, g4⟩ := g_drop hV h1 h2
  refine lv_istore (lv' := [(6, .int r2), (5, .int r), (4, .int (nI i)), (0, .ref b), (1, .ref ax), (2, .ref bx), (3, .ref bo)]) hx hb dL_law_430 hl (by decide) rfl (fun ls hl => ?_)
  refine lv_aload_n hx hb dL_law_432 rfl (lv_at hl 5 rfl) ?_
  refine f_calli (va_runV (As := []) (rest := []) ⟨hx, hb, hml, hown, hts⟩ (k_X2_thrown l D bx ba cI cJ cZ H.size u2) (cwV 0 hts gL_law_X2_thrown rfl rfl rfl (by decide +kernel) ⟨Nat.le_of_ble_eq_true rfl, Nat.le_of_ble_eq_true rfl⟩) (xPreV mE_ok trivial hKm hA (P_l hP) (D_l hD) hS (q0 := 0) (ci := 2) rfl rfl rfl) rfl rfl hl.1 rfl (lv_room (Nat.le_of_ble_eq_true rfl)) dL_law_433 ⟨(by show cells + 2 + 0 + 0 ≤ 637657; omega), (by show slots + 12 + 0 + 0 ≤ 7183133; omega)⟩) hP hD hS hA (fun r3 u3 H locs h3 hP hD hS => ?_)
  obtain ⟨e3, eu3⟩ := h3
  rw [eu3] at hP hD
  have hP := P_c hP
  have hD := D_c hD
  have eW := Cq_w g1 ax ar ad cO
  have hP : va_P D vwCl (wA ax ar ad cO bo cL bx ba cI cJ cZ u2 u1.2) H := by show va_P D vwCl ((cW ax ar ad cO u2 ++ oW bo cL u1.2) ++ mW bx ba cI cJ cZ u2) H; rw [← eW]; exact hP
  have hD : va_D A (wA ax ar ad cO bo cL bx ba cI cJ cZ u2 u1.2) := by show va_D A ((cW ax ar ad cO u2 ++ oW bo cL u1.2) ++ mW bx ba cI cJ cZ u2); rw [← eW]; exact hD
  refine W.widen (k := cells + 4) (n := slots + 24) (by omega) (by omega) ?_
  refine lv_iload hx hb dL_law_436 (lv_at hl 1 rfl) ?_
  refine lv_icmp_eq (tgt := 443) hx hb dL_law_438 (by decide) (fun _ => ?_) (fun q => absurd (e3.trans g3.symm) q)
  refine lv_iload hx hb dL_law_443 (lv_at hl 1 rfl) ?_
  refine lv_if_ne (tgt := 460) hx hb dL_law_445 (by decide) (fun _ => ?_) (fun q0 => ?_)
  · refine lv_goto (tgt := 1278) hx hb dL_law_460 (by decide) ?_
    exact kk u2 u1.2 _ _ _ hP hD hS g2 (lv_sub hl [2, 3, 4, 5, 6] rfl)
  · refine lv_aload_n hx hb dL_law_448 rfl (lv_at hl 6 rfl) ?_
    refine lv_iconst (v := 0) hx hb dL_law_449 (by decide) ?_
    refine va_lald hx hb hK (P_r (P_l hP)) 0 1 rfl rfl (by unfold vp_in; decide) dL_law_450 ?_
    refine lv_iload hx hb dL_law_451 (lv_at hl 0 rfl) ?_
    refine lv_i2l hx hb dL_law_453 rfl ?_
    refine x_eq (tgt := 460) hx hb dL_law_454 dL_law_455 (by decide) (fun _ => ?_) (fun q9 => absurd (g4 q0) q9)
    refine lv_goto (tgt := 1278) hx hb dL_law_460 (by decide) ?_
    exact kk u2 u1.2 _ _ _ hP hD hS g2 (lv_sub hl [2, 3, 4, 5, 6] rfl)
