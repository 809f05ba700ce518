theorem va_K.one {D : va_G} {tys : List (ClassId × FieldType)} {U : State} {i j : Nat} {cA cB : ClassId} {t : FieldType} (h : va_K D vwCl tys U) (h1 : tys[i]? = some (cA, t)) (h2 : tys[j]? = some (cB, t)) (ht : ∀ C, t ≠ .object C) : cA = cB := by
  have a := (h.2 i _ h1).2
  have b := (h.2 j _ h2).2
  cases t with
  | object C => exact absurd rfl (ht C)
  | _ =>
    exact Option.some.inj (Eq.trans (Eq.symm a) b)
theorem P_a {D : va_G} {a b c : va_W} {H : Heap} (h : va_P D vwCl ((a ++ b) ++ c) H) : va_P D vwCl (a ++ (b ++ c)) H := by rw [List.append_assoc] at h; exact h
theorem D_a {A : Nat → Prop} {a b c : va_W} (h : va_D A ((a ++ b) ++ c)) : va_D A (a ++ (b ++ c)) := by rw [List.append_assoc] at h; exact h
/-! ===== the start's state ===== -/
def σT : St := (fun _ => 0, fun _ => 0, fun j k => if j = 0 then nI k else if j = 8 then -1 else 0, fun _ _ => 0, fun _ _ => false)
def σS : St := uI (uI σT 3 100) 4 1000
theorem cW_S (ax ar : Nat) (ad : Nat → Nat) (cO : ClassId) : cW ax ar ad cO σ0 = cW ax ar ad cO σS := by
  have e1 : cF ar σ0 = cF ar σS := rfl
  have e2 : (List.range 32).map (fun k => (ad k, (Sum.inr (0, sF σ0 k) : va_E))) = (List.range 32).map (fun k => (ad k, Sum.inr (0, sF σS k))) := by
    apply List.map_congr_left
    intro k hk
    rw [sF_0 (List.mem_range.mp hk)]
    rfl
  unfold cW cPl
  rw [e1, e2]
theorem z_n : nF8 σT 0 = fun _ => 0 := funext fun j => match j with
  | 0 => rfl
  | 1 => rfl
  | 2 => rfl
  | 3 => rfl
  | 4 => rfl
  | 5 => rfl
  | 6 => rfl
  | 7 => rfl
  | _ + 8 => rfl
theorem z_q : qF5 σT = fun _ => 0 := funext fun j => match j with
  | 0 => rfl
  | 1 => rfl
  | 2 => rfl
  | 3 => rfl
  | 4 => rfl
  | _ + 5 => rfl
theorem z_w : wF σT = fun _ => 0 := funext fun j => by
  unfold wF
  by_cases h : j < 32
  · rw [if_pos h]; rfl
  · rw [if_neg h]; rfl
theorem z_m : mF8 σT = fun _ => 0 := funext fun j => by
  show (-1 : Int32) + 1 = 0
  decide
theorem lX_0 (be : Nat → Nat) (cI cJ : ClassId) (wr : va_W) : lX be cI cJ wr (σT, fun _ => 0, 0) = [(be 0, .inl (cI, 32, .inl (fun _ => 0))), (be 1, .inl (cI, 32, .inl (fun _ => 0))), (be 2, .inl (cI, 32, .inl (fun _ => 0))), (be 3, .inl (cI, 32, .inl (fun _ => 0))), (be 4, .inl (cI, 32, .inl (fun _ => 0))), (be 5, .inl (cI, 33, .inl (fun _ => 0))), (be 6, .inl (cI, 8, .inl (fun _ => 0))), (be 7, .inl (cJ, 64, .inr (.inl (fun _ => 0)))), (be 8, .inl (cJ, 5, .inr (.inl (fun _ => 0))))] ++ wr := by
  show [(be 0, (Sum.inl (cI, 32, .inl (uF σT)) : va_E)), (be 1, .inl (cI, 32, .inl (gS σT 4))), (be 2, .inl (cI, 32, .inl (gS σT 5))), (be 3, .inl (cI, 32, .inl (kF σT))), (be 4, .inl (cI, 32, .inl (mF8 σT))), (be 5, .inl (cI, 33, .inl (fun _ => 0))), (be 6, .inl (cI, 8, .inl (nF8 σT 0))), (be 7, .inl (cJ, 64, .inr (.inl (wF σT)))), (be 8, .inl (cJ, 5, .inr (.inl (qF5 σT))))] ++ wr = _
  rw [show uF σT = fun _ => 0 from funext fun _ => rfl, show gS σT 4 = fun _ => 0 from funext fun _ => rfl, show gS σT 5 = fun _ => 0 from funext fun _ => rfl, show kF σT = fun _ => 0 from funext fun _ => rfl, z_m, z_n, z_w, z_q]
theorem si_0 : SI 0 σS (fun _ => 0) 0 := by
  refine ⟨⟨fun k hk h => ?_, by decide, fun k hk h => ?_, by decide, fun i j hi hj h => ?_, fun k _ => rfl⟩, ⟨by decide, fun k _ => ?_⟩, [], ⟨rfl, fun j x h => ?_⟩, fun k => ⟨fun h => ?_, fun h => ?_⟩, List.Pairwise.nil⟩
  · cases h
  · cases h
  · cases h
  · have e : gS σS 8 k = -1 := rfl
    rw [e]
    decide
  · simp at h
  · cases h
  · have h2 := h.2
    cases h2
set_option maxHeartbeats 4000000 in
set_option maxRecDepth 100000 in
theorem law_loop {p : Program} {l : Launch} {e : Env} {s : State} {m : MethodId} {below : List Frame} {meth : Method} {c : Code} {Q : State → Prop} {A : Nat → Prop} {D : va_G} {cO cI cJ : ClassId} {b L : Nat} {xs : Nat → Int32} {ax ar : Nat} {ad be : Nat → Nat} (C : LC p l s m meth c A D cO cI cJ b L xs)
    (kend : ∀ (H9 : Heap) (locs9 : List Loc) (ls9 : Array Slot) (cells9 slots9 : Nat), cells9 ≤ room_1.cells → slots9 ≤ room_1.slots → va_S A s.heap H9 locs9 → lv_has ls9 20 [(11, .int 1)] → W p l e room_1 s m #[Value.ref b] below meth c H9 locs9 cells9 slots9 Q (F0 m 891 ls9 [])) :
    ∀ (f n : Nat) (σ : St) (ρ : Nat → Int32) (γ : Nat) (H : Heap) (locs : List Loc) (ls : Array Slot), n ≤ 100 → 100 - n < f → SI n σ ρ γ → va_P D vwCl (lX be cI cJ (cW ax ar ad cO σ) (σ, ρ, γ)) H → va_D A (lX be cI cJ (cW ax ar ad cO σ) (σ, ρ, γ)) → va_S A s.heap H locs → lv_has ls 20 [(0, .ref b), (1, .ref ax), (2, .ref (be 0)), (3, .ref (be 1)), (4, .ref (be 2)), (5, .ref (be 3)), (6, .ref (be 4)), (7, .ref (be 5)), (8, .ref (be 6)), (9, .ref (be 7)), (10, .ref (be 8)), (11, .int 1), (12, .int (nI n))] → W p l e room_1 s m #[Value.ref b] below meth c H locs (300 + 261 * n) (2145 + 1566 * n) Q (F0 m 97 ls []) := by
  obtain ⟨hx, hb, hml, hown, hts, hE, hK, hA, hX, hbl, hbA, hfl, hL, hlocks⟩ := id C
  intro f
  induction f with
  | zero =>
    intro n σ ρ γ H locs ls h1 h2
    exact absurd h2 (Nat.not_lt_zero _)
  | succ f ih =>
    intro n σ ρ γ H locs ls hn1 hf hI hP hD hS hl
    have hRC : 40000 ≤ room_1.cells := Nat.le_of_ble_eq_true rfl
    have hRS : 200000 ≤ room_1.slots := Nat.le_of_ble_eq_true rfl
    refine lv_iload hx hb dL_law_97 (lv_at hl 12 rfl) ?_
    refine lv_bipush (v := 100) hx hb dL_law_99 (by decide) ?_
    refine x_icmp_ge (tgt := 891) hx hb dL_law_101 (by decide) (fun c_1 => ?_) (fun c_1 => ?_)
    · exact kend H locs ls _ _ (by omega) (by omega) hS (lv_sub hl [11] rfl)
    · have hn : n < 100 := (nI_ltI (b := 100) (by omega) (by decide)).mp c_1
      have hcl : 300 + 261 * n + 4 ≤ room_1.cells := by omega
      have hsl : 2145 + 1566 * n + 24 ≤ room_1.slots := by omega
      have step : ∀ (y : Nat) (hy : y < 2 ^ 27) (σ9 : St) (ρ9 : Nat → Int32) (γ9 : Nat) (H : Heap) (locs : List Loc) (ls : Array Slot), SI (n + 1) σ9 ρ9 γ9 → va_P D vwCl (lX be cI cJ (cW ax ar ad cO σ9) (σ9, ρ9, γ9)) H → va_D A (lX be cI cJ (cW ax ar ad cO σ9) (σ9, ρ9, γ9)) → va_S A s.heap H locs → lv_has ls 20 [(0, .ref b), (1, .ref ax), (2, .ref (be 0)), (3, .ref (be 1)), (4, .ref (be 2)), (5, .ref (be 3)), (6, .ref (be 4)), (7, .ref (be 5)), (8, .ref (be 6)), (9, .ref (be 7)), (10, .ref (be 8)), (11, .int 1), (12, .int (nI n)), (15, .int (nI y))] → W p l e room_1 s m #[Value.ref b] below meth c H locs (300 + 261 * n + 4) (2145 + 1566 * n + 24) Q (F0 m 850 ls []) := by
        intro y hy σ9 ρ9 γ9 H locs ls hI9 hP hD hS hl
        obtain ⟨hV9, -, L9, hR9, hS9⟩ := id hI9
        refine lv_iload hx hb dL_law_850 (lv_at hl 11 rfl) ?_
        refine lv_if_eq (tgt := 882) hx hb dL_law_852 (by decide) (fun c_2 => absurd c_2 (by decide)) (fun _ => ?_)
        refine lv_aload_n hx hb dL_law_855 rfl (lv_at hl 1 rfl) ?_
        refine lv_aload_n hx hb dL_law_856 rfl (lv_at hl 2 rfl) ?_
        refine lv_aload_n hx hb dL_law_857 rfl (lv_at hl 3 rfl) ?_
        refine lv_aload hx hb dL_law_858 (lv_at hl 4 rfl) ?_
        refine lv_aload hx hb dL_law_860 (lv_at hl 5 rfl) ?_
        refine lv_aload hx hb dL_law_862 (lv_at hl 7 rfl) ?_
        refine lv_aload hx hb dL_law_864 (lv_at hl 8 rfl) ?_
        refine lv_aload hx hb dL_law_866 (lv_at hl 9 rfl) ?_
        refine lv_aload hx hb dL_law_868 (lv_at hl 10 rfl) ?_
        refine lv_iload hx hb dL_law_870 (lv_at hl 13 rfl) ?_
        refine x_calli (va_runS (As := [.ref ax, .ref (be 0), .ref (be 1), .ref (be 2), .ref (be 3), .ref (be 5), .ref (be 6), .ref (be 7), .ref (be 8), .int (nI y)]) (rest := []) ⟨hx, hb, hml, hown, hts⟩ (k_L_isCache l D be cI cJ ax ar ad cO H.size σ9 ρ9 γ9 y (by omega) (n + 1) hV9 L9 hR9 hS9 hfl) (va_cwS 10 hts gL_law_L_isCache rfl rfl rfl (by decide +kernel) ⟨Nat.le_of_ble_eq_true rfl, Nat.le_of_ble_eq_true rfl⟩) (xPreS xE_ok hE hK hA hP hD hS) rfl rfl hl.1 rfl (lv_room (Nat.le_of_ble_eq_true rfl)) dL_law_872 ⟨(by show 300 + 261 * n + 4 + 257 ≤ room_1.cells; omega), (by show 2145 + 1566 * n + 24 + 1542 ≤ room_1.slots; omega)⟩) hD hS hA (fun r u H locs hp hP hD hS => ?_)
        obtain ⟨rfl, hu9⟩ := hp
        rw [hu9] at hP hD
        refine lv_if_eq (tgt := 882) hx hb dL_law_875 (by decide) (fun c_3 => absurd c_3 (by decide)) (fun _ => ?_)
        refine lv_iconst (v := 1) hx hb dL_law_878 (by decide) ?_
        refine lv_goto (tgt := 883) hx hb dL_law_879 (by decide) ?_
        refine lv_istore (lv' := [(11, .int 1), (0, .ref b), (1, .ref ax), (2, .ref (be 0)), (3, .ref (be 1)), (4, .ref (be 2)), (5, .ref (be 3)), (6, .ref (be 4)), (7, .ref (be 5)), (8, .ref (be 6)), (9, .ref (be 7)), (10, .ref (be 8)), (12, .int (nI n)), (15, .int (nI y))]) hx hb dL_law_883 hl (by decide) rfl (fun ls hl => ?_)
        refine lv_iinc (v := (nI n) + 1) (lv' := [(12, .int ((nI n) + 1)), (11, .int 1), (0, .ref b), (1, .ref ax), (2, .ref (be 0)), (3, .ref (be 1)), (4, .ref (be 2)), (5, .ref (be 3)), (6, .ref (be 4)), (7, .ref (be 5)), (8, .ref (be 6)), (9, .ref (be 7)), (10, .ref (be 8)), (15, .int (nI y))]) hx hb dL_law_885 hl (k := 12) rfl rfl (by decide) rfl (fun ls hl => ?_)
        refine lv_goto (tgt := 97) hx hb dL_law_888 (by decide) ?_
        refine W.widen (k := 300 + 261 * (n + 1)) (n := 2145 + 1566 * (n + 1)) (by omega) (by omega) ?_
        exact ih (n + 1) σ9 ρ9 γ9 H locs ls (by omega) (by omega) hI9 hP hD hS (by rw [nI_succ]; exact lv_sub hl [2, 3, 4, 5, 6, 7, 8, 9, 10, 11, 12, 1, 0] rfl)
      have B187 : ∀ (q14 y t : Nat) (H : Heap) (locs : List Loc) (ls : Array Slot), y < 2 ^ 27 → t < 32 → va_P D vwCl (lX be cI cJ (cW ax ar ad cO σ) (σ, ρ, γ)) H → va_D A (lX be cI cJ (cW ax ar ad cO σ) (σ, ρ, γ)) → va_S A s.heap H locs → lv_has ls 20 [(0, .ref b), (1, .ref ax), (2, .ref (be 0)), (3, .ref (be 1)), (4, .ref (be 2)), (5, .ref (be 3)), (6, .ref (be 4)), (7, .ref (be 5)), (8, .ref (be 6)), (9, .ref (be 7)), (10, .ref (be 8)), (11, .int 1), (12, .int (nI n)), (14, .int (nI q14)), (15, .int (nI y))] → W p l e room_1 s m #[Value.ref b] below meth c H locs (300 + 261 * n) (2145 + 1566 * n) Q (F0 m 187 ls [.int (nI t)]) := by
        intro q14 y t H locs ls hy ht hP hD hS hl
        refine lv_istore (lv' := [(16, .int (nI t)), (0, .ref b), (1, .ref ax), (2, .ref (be 0)), (3, .ref (be 1)), (4, .ref (be 2)), (5, .ref (be 3)), (6, .ref (be 4)), (7, .ref (be 5)), (8, .ref (be 6)), (9, .ref (be 7)), (10, .ref (be 8)), (11, .int 1), (12, .int (nI n)), (14, .int (nI q14)), (15, .int (nI y))]) hx hb dL_law_187 hl (by decide) rfl (fun ls hl => ?_)
        refine lv_iload hx hb dL_law_189 (lv_at hl 14 rfl) ?_
        refine lv_bipush (v := 8) hx hb dL_law_191 (by decide) ?_
        refine x_icmp_ge (tgt := 340) hx hb dL_law_193 (by decide) (fun c_4 => ?_) (fun c_4 => ?_)
        · refine lv_iload hx hb dL_law_340 (lv_at hl 14 rfl) ?_
          refine lv_bipush (v := 10) hx hb dL_law_342 (by decide) ?_
          refine x_icmp_ge (tgt := 402) hx hb dL_law_344 (by decide) (fun c_5 => ?_) (fun c_5 => ?_)
          · refine lv_iload hx hb dL_law_402 (lv_at hl 14 rfl) ?_
            refine lv_bipush (v := 12) hx hb dL_law_404 (by decide) ?_
            refine x_icmp_ge (tgt := 552) hx hb dL_law_406 (by decide) (fun c_6 => ?_) (fun c_6 => ?_)
            · refine lv_iload hx hb dL_law_552 (lv_at hl 14 rfl) ?_
              refine lv_bipush (v := 12) hx hb dL_law_554 (by decide) ?_
              refine lv_icmp_ne (tgt := 610) hx hb dL_law_556 (by decide) (fun c_7 => ?_) (fun c_7 => ?_)
              · refine lv_iload hx hb dL_law_610 (lv_at hl 14 rfl) ?_
                refine lv_bipush (v := 13) hx hb dL_law_612 (by decide) ?_
                refine lv_icmp_ne (tgt := 644) hx hb dL_law_614 (by decide) (fun c_8 => ?_) (fun c_8 => ?_)
                · refine lv_iload hx hb dL_law_644 (lv_at hl 14 rfl) ?_
                  refine lv_bipush (v := 14) hx hb dL_law_646 (by decide) ?_
                  refine lv_icmp_ne (tgt := 798) hx hb dL_law_648 (by decide) (fun c_9 => ?_) (fun c_9 => ?_)
                  · exact c_thr C hn hI y t hy ht hcl hsl hP hD hS (lv_sub hl [1, 2, 3, 4, 5, 6, 7, 8, 9, 10, 11, 13, 15, 0] rfl) (step y hy)
                  · exact c_cap C hn hI y t hy ht hcl hsl hP hD hS (lv_sub hl [1, 2, 3, 4, 5, 6, 7, 8, 9, 10, 11, 13, 15, 0] rfl) (step y hy)
                · exact c_purge C hn hI y t hy ht hcl hsl hP hD hS (lv_sub hl [1, 2, 3, 4, 5, 6, 7, 8, 9, 10, 11, 13, 15, 0] rfl) (step y hy)
              · exact c_drop C hn hI y t hy ht hcl hsl hP hD hS (lv_sub hl [1, 2, 3, 4, 5, 6, 7, 8, 9, 10, 11, 13, 15, 0] rfl) (step y hy)
            · exact c_pin C hn hI y t hy ht hcl hsl hP hD hS (lv_sub hl [1, 2, 3, 4, 5, 6, 7, 8, 9, 10, 11, 13, 15, 0] rfl) (step y hy)
          · exact c_pass C hn hI y t hy ht hcl hsl hP hD hS (lv_sub hl [1, 2, 3, 4, 5, 6, 7, 8, 9, 10, 11, 13, 15, 0] rfl) (step y hy)
        · exact c_fetch C hn hI y t hy ht hcl hsl hP hD hS (lv_sub hl [1, 2, 3, 4, 5, 6, 7, 8, 9, 10, 11, 13, 15, 0] rfl) (step y hy)
      have B163 : ∀ (q14 y : Nat) (H : Heap) (locs : List Loc) (ls : Array Slot), y < 2 ^ 27 → va_P D vwCl (lX be cI cJ (cW ax ar ad cO σ) (σ, ρ, γ)) H → va_D A (lX be cI cJ (cW ax ar ad cO σ) (σ, ρ, γ)) → va_S A s.heap H locs → lv_has ls 20 [(0, .ref b), (1, .ref ax), (2, .ref (be 0)), (3, .ref (be 1)), (4, .ref (be 2)), (5, .ref (be 3)), (6, .ref (be 4)), (7, .ref (be 5)), (8, .ref (be 6)), (9, .ref (be 7)), (10, .ref (be 8)), (11, .int 1), (12, .int (nI n)), (14, .int (nI q14)), (15, .int (nI y))] → W p l e room_1 s m #[Value.ref b] below meth c H locs (300 + 261 * n) (2145 + 1566 * n) Q (F0 m 163 ls []) := by
        intro q14 y H locs ls hy hP hD hS hl
        refine lv_iload hx hb dL_law_163 (lv_at hl 14 rfl) ?_
        refine lv_iconst (v := 3) hx hb dL_law_165 (by decide) ?_
        refine lv_irem hx hb dL_law_166 (by decide) ?_
        refine W.eq (g2 := F0 m 167 ls [.int (nI (y % 3))]) (by rw [show nI y - nI y / 3 * 3 = nI (y % 3) from pk_rem (d := 3) (by omega) (by decide) (by decide)]) ?_
        refine lv_if_ne (tgt := 180) hx hb dL_law_167 (by decide) (fun c_10 => ?_) (fun c_10 => ?_)
        · refine lv_iload hx hb dL_law_180 (lv_at hl 14 rfl) ?_
          refine lv_iconst (v := 3) hx hb dL_law_182 (by decide) ?_
          refine lv_idiv hx hb dL_law_183 (by decide) ?_
          refine W.eq (g2 := F0 m 184 ls [.int (nI (y / 3))]) (by rw [show nI y / 3 = nI (y / 3) from pk_div (d := 3) (by omega) (by decide) (by decide)]) ?_
          refine lv_bipush (v := 9) hx hb dL_law_184 (by decide) ?_
          refine lv_irem hx hb dL_law_186 (by decide) ?_
          refine W.eq (g2 := F0 m 187 ls [.int (nI ((y / 3) % 9))]) (by rw [show nI (y / 3) - nI (y / 3) / 9 * 9 = nI ((y / 3) % 9) from pk_rem (d := 9) (by omega) (by decide) (by decide)]) ?_
          exact B187 q14 y ((y / 3) % 9) H locs ls hy (by omega) hP hD hS (lv_sub hl [0, 1, 2, 3, 4, 5, 6, 7, 8, 9, 10, 11, 12, 13, 14] rfl)
        · refine lv_iload hx hb dL_law_170 (lv_at hl 14 rfl) ?_
          refine lv_iconst (v := 3) hx hb dL_law_172 (by decide) ?_
          refine lv_idiv hx hb dL_law_173 (by decide) ?_
          refine W.eq (g2 := F0 m 174 ls [.int (nI (y / 3))]) (by rw [show nI y / 3 = nI (y / 3) from pk_div (d := 3) (by omega) (by decide) (by decide)]) ?_
          refine lv_bipush (v := 32) hx hb dL_law_174 (by decide) ?_
          refine lv_irem hx hb dL_law_176 (by decide) ?_
          refine W.eq (g2 := F0 m 177 ls [.int (nI ((y / 3) % 32))]) (by rw [show nI (y / 3) - nI (y / 3) / 32 * 32 = nI ((y / 3) % 32) from pk_rem (d := 32) (by omega) (by decide) (by decide)]) ?_
          refine lv_goto (tgt := 187) hx hb dL_law_177 (by decide) ?_
          exact B187 q14 y ((y / 3) % 32) H locs ls hy (by omega) hP hD hS (lv_sub hl [0, 1, 2, 3, 4, 5, 6, 7, 8, 9, 10, 11, 12, 13, 14] rfl)
      have B147 : ∀ (j : Nat) (H : Heap) (locs : List Loc) (ls : Array Slot), j < 2 ^ 31 → va_P D vwCl (lX be cI cJ (cW ax ar ad cO σ) (σ, ρ, γ)) H → va_D A (lX be cI cJ (cW ax ar ad cO σ) (σ, ρ, γ)) → va_S A s.heap H locs → lv_has ls 20 [(0, .ref b), (1, .ref ax), (2, .ref (be 0)), (3, .ref (be 1)), (4, .ref (be 2)), (5, .ref (be 3)), (6, .ref (be 4)), (7, .ref (be 5)), (8, .ref (be 6)), (9, .ref (be 7)), (10, .ref (be 8)), (11, .int 1), (12, .int (nI n))] → W p l e room_1 s m #[Value.ref b] below meth c H locs (300 + 261 * n) (2145 + 1566 * n) Q (F0 m 147 ls [.int (nI j)]) := by
        intro j H locs ls hj hP hD hS hl
        refine lv_istore (lv' := [(13, .int (nI j)), (0, .ref b), (1, .ref ax), (2, .ref (be 0)), (3, .ref (be 1)), (4, .ref (be 2)), (5, .ref (be 3)), (6, .ref (be 4)), (7, .ref (be 5)), (8, .ref (be 6)), (9, .ref (be 7)), (10, .ref (be 8)), (11, .int 1), (12, .int (nI n))]) hx hb dL_law_147 hl (by decide) rfl (fun ls hl => ?_)
        refine lv_iload hx hb dL_law_149 (lv_at hl 0 rfl) ?_
        refine lv_bipush (v := 16) hx hb dL_law_151 (by decide) ?_
        refine lv_irem hx hb dL_law_153 (by decide) ?_
        refine W.eq (g2 := F0 m 154 ls [.int (nI (j % 16))]) (by rw [show nI j - nI j / 16 * 16 = nI (j % 16) from pk_rem (d := 16) (by omega) (by decide) (by decide)]) ?_
        refine lv_istore (lv' := [(14, .int (nI (j % 16))), (13, .int (nI j)), (0, .ref b), (1, .ref ax), (2, .ref (be 0)), (3, .ref (be 1)), (4, .ref (be 2)), (5, .ref (be 3)), (6, .ref (be 4)), (7, .ref (be 5)), (8, .ref (be 6)), (9, .ref (be 7)), (10, .ref (be 8)), (11, .int 1), (12, .int (nI n))]) hx hb dL_law_154 hl (by decide) rfl (fun ls hl => ?_)
        refine lv_iload hx hb dL_law_156 (lv_at hl 1 rfl) ?_
        refine lv_bipush (v := 16) hx hb dL_law_158 (by decide) ?_
        refine lv_idiv hx hb dL_law_160 (by decide) ?_
        refine W.eq (g2 := F0 m 161 ls [.int (nI (j / 16))]) (by rw [show nI j / 16 = nI (j / 16) from pk_div (d := 16) (by omega) (by decide) (by decide)]) ?_
        refine lv_istore (lv' := [(15, .int (nI (j / 16))), (14, .int (nI (j % 16))), (13, .int (nI j)), (0, .ref b), (1, .ref ax), (2, .ref (be 0)), (3, .ref (be 1)), (4, .ref (be 2)), (5, .ref (be 3)), (6, .ref (be 4)), (7, .ref (be 5)), (8, .ref (be 6)), (9, .ref (be 7)), (10, .ref (be 8)), (11, .int 1), (12, .int (nI n))]) hx hb dL_law_161 hl (by decide) rfl (fun ls hl => ?_)
        exact B163 (j % 16) (j / 16) H locs ls (by omega) hP hD hS (lv_sub hl [3, 4, 5, 6, 7, 8, 9, 10, 11, 12, 13, 14, 15, 1, 0] rfl)
      refine lv_iload hx hb dL_law_104 (lv_at hl 11 rfl) ?_
      refine lv_if_eq (tgt := 891) hx hb dL_law_106 (by decide) (fun c_11 => absurd c_11 (by decide)) (fun _ => ?_)
      refine lv_iload hx hb dL_law_109 (lv_at hl 12 rfl) ?_
      refine lv_aload_n hx hb dL_law_111 rfl (lv_at hl 0 rfl) ?_
      refine va_slen hx hb hX hbl hbA hS dL_law_112 ?_
      refine W.eq (g2 := F0 m 113 ls [.int (nI L), .int (nI n)]) rfl ?_
      refine x_icmp_ge (tgt := 126) hx hb dL_law_113 (by decide) (fun c_12 => ?_) (fun c_12 => ?_)
      · refine lv_ldc (v := 50131) hx hb hown (hts (.constant RL 148 (50131)) (by decide +kernel)) dL_law_126 ?_
        refine lv_iload hx hb dL_law_128 (lv_at hl 12 rfl) ?_
        refine lv_imul hx hb dL_law_130 ?_
        refine lv_iload hx hb dL_law_131 (lv_at hl 12 rfl) ?_
        refine lv_imul hx hb dL_law_133 ?_
        refine lv_sipush (v := 3001) hx hb dL_law_134 (by decide) ?_
        refine lv_iload hx hb dL_law_137 (lv_at hl 12 rfl) ?_
        refine lv_imul hx hb dL_law_139 ?_
        refine lv_iadd hx hb dL_law_140 ?_
        refine lv_bipush (v := 47) hx hb dL_law_141 (by decide) ?_
        refine lv_iadd hx hb dL_law_143 ?_
        refine lv_ldc (v := 2147483647) hx hb hown (hts (.constant RL 147 (2147483647)) (by decide +kernel)) dL_law_144 ?_
        refine lv_iand hx hb dL_law_146 ?_
        obtain ⟨j, hj, ej⟩ := and_N ((((50131 * (nI n)) * (nI n)) + (3001 * (nI n))) + 47)
        refine W.eq (g2 := F0 m 147 ls [.int (nI j)]) (by rw [ej]) ?_
        exact B147 j H locs ls hj hP hD hS (lv_sub hl [0, 1, 2, 3, 4, 5, 6, 7, 8, 9, 10, 11, 12] rfl)
      · have hnL : n < L := (nI_ltI (by omega) (by omega)).mp c_12
        refine lv_aload_n hx hb dL_law_116 rfl (lv_at hl 0 rfl) ?_
        refine lv_iload hx hb dL_law_117 (lv_at hl 12 rfl) ?_
        refine va_sld hx hb hX hbl hbA hS (vp_in_nI hnL (by omega)) dL_law_119 ?_
        refine lv_ldc (v := 2147483647) hx hb hown (hts (.constant RL 147 (2147483647)) (by decide +kernel)) dL_law_120 ?_
        refine lv_iand hx hb dL_law_122 ?_
        refine lv_goto (tgt := 147) hx hb dL_law_123 (by decide) ?_
        obtain ⟨j, hj, ej⟩ := and_N (xs (nI n).toNatClampNeg)
        refine W.eq (g2 := F0 m 147 ls [.int (nI j)]) (by rw [ej]) ?_
        exact B147 j H locs ls hj hP hD hS (lv_sub hl [0, 1, 2, 3, 4, 5, 6, 7, 8, 9, 10, 11, 12] rfl)
