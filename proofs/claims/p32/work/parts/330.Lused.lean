set_option maxHeartbeats 4000000 in
set_option maxRecDepth 100000 in
theorem k_L_used (l : Launch) (D : va_G) (be : Nat → Nat) (cI cJ : ClassId) (wr : va_W) (ty : List (ClassId × FieldType)) (sz : Nat) (σ : St) (ρ : Nat → Int32) (γ : Nat) : Met l yL_used wsL_used ({ frames := 0, cells := 0, slots := 0, locals := 0 } : Room) (va_Pc [.ref (be 0)] (xPre D (tX cI cJ ty) mE (lX be cI cJ wr) (σ, ρ, γ) sz)) (va_Qi (fun (r : Int32) (u : LSt) => r = used σ ∧ u = (σ, ρ, γ)) (xB D (tX cI cJ ty) (lX be cI cJ wr) (va_A (lX be cI cJ wr (σ, ρ, γ)) sz)) (va_A (lX be cI cJ wr (σ, ρ, γ)) sz)) 0 0 (va_A (lX be cI cJ wr (σ, ρ, γ)) sz) := by
  refine xOpen (w := (lX be cI cJ wr)) (σ := (σ, ρ, γ)) (cc := cL_used) (maxL := 3) (ret := some .int) (QQ := fun A => va_Qi (fun (r : Int32) (u : LSt) => r = used σ ∧ u = (σ, ρ, γ)) (xB D (tX cI cJ ty) (lX be cI cJ wr) A) A) (by decide) rfl (Nat.le_of_ble_eq_true rfl) ?_
  intro p e s m below meth c A hx hb hr hml hown hts hlocks hname hK hE hA hP hD hS ls hl
  have hl : lv_has ls 3 [(0, .ref (be 0))] := hl
  have hown : s.vm.findClass RL = some m.cls := hown
  generalize hH : s.heap = H at hP
  have hS : va_S A s.heap H [] := by rw [← hH]; exact va_S.rf
  generalize hlo : ([] : List Loc) = locs at hS
  refine lv_iconst (v := 0) hx hb dL_used_0 (by decide) ?_
  refine lv_istore_n (lv' := [(1, .int 0), (0, .ref (be 0))]) hx hb dL_used_1 rfl hl (by decide) rfl (fun ls hl => ?_)
  refine lv_iconst (v := 0) hx hb dL_used_2 (by decide) ?_
  refine lv_istore_n (lv' := [(2, .int 0), (1, .int 0), (0, .ref (be 0))]) hx hb dL_used_3 rfl hl (by decide) rfl (fun ls hl => ?_)
  have loop : ∀ (n : Nat) (i : Nat) (ls : Array Slot) (H : Heap) (locs : List Loc), 32 - i < n → i ≤ 32 → va_P D vwCl (lX be cI cJ wr (σ, ρ, γ)) H → va_D A (lX be cI cJ wr (σ, ρ, γ)) → va_S A s.heap H locs → lv_has ls 3 [(0, .ref (be 0)), (1, .int (sumI (uF σ) i)), (2, .int (nI i))] → W p l e (headSpec wsL_used ({ frames := 0, cells := 0, slots := 0, locals := 0 } : Room)).room s m [.ref (be 0)].toArray below meth c H locs 0 0 (MQ below (va_Qi (fun (r : Int32) (u : LSt) => r = used σ ∧ u = (σ, ρ, γ)) (xB D (tX cI cJ ty) (lX be cI cJ wr) A) A) [.ref (be 0)].toArray s 0 0 A) (F0 m 4 ls []) := by
    intro n
    induction n with
    | zero =>
      intro i ls H locs h9
      exact absurd h9 (Nat.not_lt_zero _)
    | succ n ih =>
      intro i ls H locs hn9 hi hP hD hS hl
      refine lv_iload_n hx hb dL_used_4 rfl (lv_at hl 2 rfl) ?_
      refine lv_bipush (v := 32) hx hb dL_used_5 (by decide) ?_
      refine x_icmp_ge (tgt := 22) hx hb dL_used_7 (by decide) (fun c_1 => ?_) (fun c_1 => ?_)
      · have hi9 : i = 32 := by
          rcases Nat.lt_or_ge i 32 with q | q
          · exact absurd ((nI_lt32 hi).mpr q) c_1
          · omega
        subst hi9
        refine lv_iload_n hx hb dL_used_22 rfl (lv_at hl 1 rfl) ?_
        exact x_iret hx hb hr hlocks hK ((σ, ρ, γ) : LSt) hP hD hS (⟨rfl, rfl⟩) dL_used_23
      · have hlt : i < 32 := (nI_lt32 hi).mp c_1
        refine lv_iload_n hx hb dL_used_10 rfl (lv_at hl 1 rfl) ?_
        refine lv_aload_n hx hb dL_used_11 rfl (lv_at hl 0 rfl) ?_
        refine lv_iload_n hx hb dL_used_12 rfl (lv_at hl 2 rfl) ?_
        refine l_ld0 hx hb hK hP hlt dL_used_13 ?_
        refine lv_iadd hx hb dL_used_14 ?_
        refine lv_istore_n (lv' := [(1, .int ((sumI (uF σ) i) + (uF σ i))), (0, .ref (be 0)), (2, .int (nI i))]) hx hb dL_used_15 rfl hl (by decide) rfl (fun ls hl => ?_)
        refine lv_iinc (v := (nI i) + 1) (lv' := [(2, .int ((nI i) + 1)), (1, .int ((sumI (uF σ) i) + (uF σ i))), (0, .ref (be 0))]) hx hb dL_used_16 hl (k := 2) rfl rfl (by decide) rfl (fun ls hl => ?_)
        refine lv_goto (tgt := 4) hx hb dL_used_19 (by decide) ?_
        have e9 : sumI (uF σ) (i + 1) = (sumI (uF σ) i) + (uF σ i) := by rfl
        exact ih (i + 1) ls H locs (by omega) (by omega) hP hD hS (by rw [e9, nI_succ]; exact lv_sub hl [2, 1, 0] rfl)
  exact loop (32 + 1) 0 _ _ _ (by omega) (Nat.zero_le _) hP hD hS (lv_sub hl [2, 1, 0] rfl)
set_option maxHeartbeats 4000000 in
set_option maxRecDepth 100000 in
theorem k_L_pinned (l : Launch) (D : va_G) (be : Nat → Nat) (cI cJ : ClassId) (wr : va_W) (ty : List (ClassId × FieldType)) (sz : Nat) (σ : St) (ρ : Nat → Int32) (γ : Nat) (b : Bool) : Met l yL_pinned wsL_pinned ({ frames := 0, cells := 0, slots := 0, locals := 0 } : Room) (va_Pc [.ref (be 0), .ref (be 2), .ref (be 3), .ref (be 6), .int (bI b)] (xPre D (tX cI cJ ty) mE (lX be cI cJ wr) (σ, ρ, γ) sz)) (va_Qi (fun (r : Int32) (u : LSt) => r = mPin σ b ∧ u = (σ, ρ, γ)) (xB D (tX cI cJ ty) (lX be cI cJ wr) (va_A (lX be cI cJ wr (σ, ρ, γ)) sz)) (va_A (lX be cI cJ wr (σ, ρ, γ)) sz)) 0 0 (va_A (lX be cI cJ wr (σ, ρ, γ)) sz) := by
  refine xOpen (w := (lX be cI cJ wr)) (σ := (σ, ρ, γ)) (cc := cL_pinned) (maxL := 7) (ret := some .int) (QQ := fun A => va_Qi (fun (r : Int32) (u : LSt) => r = mPin σ b ∧ u = (σ, ρ, γ)) (xB D (tX cI cJ ty) (lX be cI cJ wr) A) A) (by decide) rfl (Nat.le_of_ble_eq_true rfl) ?_
  intro p e s m below meth c A hx hb hr hml hown hts hlocks hname hK hE hA hP hD hS ls hl
  have hl : lv_has ls 7 [(0, .ref (be 0)), (1, .ref (be 2)), (2, .ref (be 3)), (3, .ref (be 6)), (4, .int (bI b))] := hl
  have hown : s.vm.findClass RL = some m.cls := hown
  generalize hH : s.heap = H at hP
  have hS : va_S A s.heap H [] := by rw [← hH]; exact va_S.rf
  generalize hlo : ([] : List Loc) = locs at hS
  refine lv_iconst (v := 0) hx hb dL_pinned_0 (by decide) ?_
  refine lv_istore (lv' := [(5, .int 0), (0, .ref (be 0)), (1, .ref (be 2)), (2, .ref (be 3)), (3, .ref (be 6)), (4, .int (bI b))]) hx hb dL_pinned_1 hl (by decide) rfl (fun ls hl => ?_)
  refine lv_iconst (v := 0) hx hb dL_pinned_3 (by decide) ?_
  refine lv_istore (lv' := [(6, .int 0), (5, .int 0), (0, .ref (be 0)), (1, .ref (be 2)), (2, .ref (be 3)), (3, .ref (be 6)), (4, .int (bI b))]) hx hb dL_pinned_4 hl (by decide) rfl (fun ls hl => ?_)
  have loop : ∀ (n : Nat) (i : Nat) (ls : Array Slot) (H : Heap) (locs : List Loc), 32 - i < n → i ≤ 32 → va_P D vwCl (lX be cI cJ wr (σ, ρ, γ)) H → va_D A (lX be cI cJ wr (σ, ρ, γ)) → va_S A s.heap H locs → lv_has ls 7 [(0, .ref (be 0)), (1, .ref (be 2)), (2, .ref (be 3)), (3, .ref (be 6)), (4, .int (bI b)), (5, .int (sumI (mPF σ b) i)), (6, .int (nI i))] → W p l e (headSpec wsL_pinned ({ frames := 0, cells := 0, slots := 0, locals := 0 } : Room)).room s m [.ref (be 0), .ref (be 2), .ref (be 3), .ref (be 6), .int (bI b)].toArray below meth c H locs 0 0 (MQ below (va_Qi (fun (r : Int32) (u : LSt) => r = mPin σ b ∧ u = (σ, ρ, γ)) (xB D (tX cI cJ ty) (lX be cI cJ wr) A) A) [.ref (be 0), .ref (be 2), .ref (be 3), .ref (be 6), .int (bI b)].toArray s 0 0 A) (F0 m 6 ls []) := by
    intro n
    induction n with
    | zero =>
      intro i ls H locs h9
      exact absurd h9 (Nat.not_lt_zero _)
    | succ n ih =>
      intro i ls H locs hn9 hi hP hD hS hl
      refine lv_iload hx hb dL_pinned_6 (lv_at hl 6 rfl) ?_
      refine lv_bipush (v := 32) hx hb dL_pinned_8 (by decide) ?_
      refine x_icmp_ge (tgt := 55) hx hb dL_pinned_10 (by decide) (fun c_1 => ?_) (fun c_1 => ?_)
      · have hi9 : i = 32 := by
          rcases Nat.lt_or_ge i 32 with q | q
          · exact absurd ((nI_lt32 hi).mpr q) c_1
          · omega
        subst hi9
        refine lv_iload hx hb dL_pinned_55 (lv_at hl 5 rfl) ?_
        exact x_iret hx hb hr hlocks hK ((σ, ρ, γ) : LSt) hP hD hS (⟨rfl, rfl⟩) dL_pinned_57
      · have hlt : i < 32 := (nI_lt32 hi).mp c_1
        refine lv_iload hx hb dL_pinned_13 (lv_at hl 5 rfl) ?_
        refine lv_aload_n hx hb dL_pinned_15 rfl (lv_at hl 2 rfl) ?_
        refine lv_iload hx hb dL_pinned_16 (lv_at hl 6 rfl) ?_
        refine l_ld3 hx hb hK hP hlt dL_pinned_18 ?_
        refine lv_iconst (v := 1) hx hb dL_pinned_19 (by decide) ?_
        refine lv_icmp_ne (tgt := 45) hx hb dL_pinned_20 (by decide) (fun c_2 => ?_) (fun c_2 => ?_)
        · refine lv_iconst (v := 0) hx hb dL_pinned_45 (by decide) ?_
          refine lv_iadd hx hb dL_pinned_46 ?_
          refine lv_istore (lv' := [(5, .int ((sumI (mPF σ b) i) + 0)), (0, .ref (be 0)), (1, .ref (be 2)), (2, .ref (be 3)), (3, .ref (be 6)), (4, .int (bI b)), (6, .int (nI i))]) hx hb dL_pinned_47 hl (by decide) rfl (fun ls hl => ?_)
          refine lv_iinc (v := (nI i) + 1) (lv' := [(6, .int ((nI i) + 1)), (5, .int ((sumI (mPF σ b) i) + 0)), (0, .ref (be 0)), (1, .ref (be 2)), (2, .ref (be 3)), (3, .ref (be 6)), (4, .int (bI b))]) hx hb dL_pinned_49 hl (k := 6) rfl rfl (by decide) rfl (fun ls hl => ?_)
          refine lv_goto (tgt := 6) hx hb dL_pinned_52 (by decide) ?_
          have e9 : sumI (mPF σ b) (i + 1) = (sumI (mPF σ b) i) + 0 := by rw [sumI_s, pn_f (Or.inl (by cases h8 : gB σ 2 i with | false => rfl | true => exact absurd (bI_1.mpr h8) c_2))]
          exact ih (i + 1) ls H locs (by omega) (by omega) hP hD hS (by rw [e9, nI_succ]; exact lv_sub hl [2, 3, 4, 5, 6, 1, 0] rfl)
        · refine lv_iload hx hb dL_pinned_23 (lv_at hl 4 rfl) ?_
          refine x_ifne (tgt := 38) hx hb dL_pinned_25 (by decide) (fun c_3 => ?_) (fun c_3 => ?_)
          · refine lv_aload_n hx hb dL_pinned_38 rfl (lv_at hl 0 rfl) ?_
            refine lv_iload hx hb dL_pinned_39 (lv_at hl 6 rfl) ?_
            refine l_ld0 hx hb hK hP hlt dL_pinned_41 ?_
            refine lv_goto (tgt := 46) hx hb dL_pinned_42 (by decide) ?_
            refine lv_iadd hx hb dL_pinned_46 ?_
            refine lv_istore (lv' := [(5, .int ((sumI (mPF σ b) i) + (uF σ i))), (0, .ref (be 0)), (1, .ref (be 2)), (2, .ref (be 3)), (3, .ref (be 6)), (4, .int (bI b)), (6, .int (nI i))]) hx hb dL_pinned_47 hl (by decide) rfl (fun ls hl => ?_)
            refine lv_iinc (v := (nI i) + 1) (lv' := [(6, .int ((nI i) + 1)), (5, .int ((sumI (mPF σ b) i) + (uF σ i))), (0, .ref (be 0)), (1, .ref (be 2)), (2, .ref (be 3)), (3, .ref (be 6)), (4, .int (bI b))]) hx hb dL_pinned_49 hl (k := 6) rfl rfl (by decide) rfl (fun ls hl => ?_)
            refine lv_goto (tgt := 6) hx hb dL_pinned_52 (by decide) ?_
            have e9 : sumI (mPF σ b) (i + 1) = (sumI (mPF σ b) i) + (uF σ i) := by rw [sumI_s, pn_t (bI_1.mp c_2) (Or.inl c_3)]
            exact ih (i + 1) ls H locs (by omega) (by omega) hP hD hS (by rw [e9, nI_succ]; exact lv_sub hl [2, 3, 4, 5, 6, 1, 0] rfl)
          · refine lv_aload_n hx hb dL_pinned_28 rfl (lv_at hl 1 rfl) ?_
            refine lv_iload hx hb dL_pinned_29 (lv_at hl 6 rfl) ?_
            refine l_ld2 hx hb hK hP hlt dL_pinned_31 ?_
            refine lv_aload_n hx hb dL_pinned_32 rfl (lv_at hl 3 rfl) ?_
            refine lv_iconst (v := 0) hx hb dL_pinned_33 (by decide) ?_
            refine l_ld6 hx hb hK hP (k := 0) (by decide) (v := gI σ 1) rfl dL_pinned_34 ?_
            refine x_icmp_le (tgt := 45) hx hb dL_pinned_35 (by decide) (fun c_4 => ?_) (fun c_4 => ?_)
            · refine lv_iconst (v := 0) hx hb dL_pinned_45 (by decide) ?_
              refine lv_iadd hx hb dL_pinned_46 ?_
              refine lv_istore (lv' := [(5, .int ((sumI (mPF σ b) i) + 0)), (0, .ref (be 0)), (1, .ref (be 2)), (2, .ref (be 3)), (3, .ref (be 6)), (4, .int (bI b)), (6, .int (nI i))]) hx hb dL_pinned_47 hl (by decide) rfl (fun ls hl => ?_)
              refine lv_iinc (v := (nI i) + 1) (lv' := [(6, .int ((nI i) + 1)), (5, .int ((sumI (mPF σ b) i) + 0)), (0, .ref (be 0)), (1, .ref (be 2)), (2, .ref (be 3)), (3, .ref (be 6)), (4, .int (bI b))]) hx hb dL_pinned_49 hl (k := 6) rfl rfl (by decide) rfl (fun ls hl => ?_)
              refine lv_goto (tgt := 6) hx hb dL_pinned_52 (by decide) ?_
              have e9 : sumI (mPF σ b) (i + 1) = (sumI (mPF σ b) i) + 0 := by rw [sumI_s, pn_f (Or.inr ⟨c_3, en_t c_4⟩)]
              exact ih (i + 1) ls H locs (by omega) (by omega) hP hD hS (by rw [e9, nI_succ]; exact lv_sub hl [2, 3, 4, 5, 6, 1, 0] rfl)
            · refine lv_aload_n hx hb dL_pinned_38 rfl (lv_at hl 0 rfl) ?_
              refine lv_iload hx hb dL_pinned_39 (lv_at hl 6 rfl) ?_
              refine l_ld0 hx hb hK hP hlt dL_pinned_41 ?_
              refine lv_goto (tgt := 46) hx hb dL_pinned_42 (by decide) ?_
              refine lv_iadd hx hb dL_pinned_46 ?_
              refine lv_istore (lv' := [(5, .int ((sumI (mPF σ b) i) + (uF σ i))), (0, .ref (be 0)), (1, .ref (be 2)), (2, .ref (be 3)), (3, .ref (be 6)), (4, .int (bI b)), (6, .int (nI i))]) hx hb dL_pinned_47 hl (by decide) rfl (fun ls hl => ?_)
              refine lv_iinc (v := (nI i) + 1) (lv' := [(6, .int ((nI i) + 1)), (5, .int ((sumI (mPF σ b) i) + (uF σ i))), (0, .ref (be 0)), (1, .ref (be 2)), (2, .ref (be 3)), (3, .ref (be 6)), (4, .int (bI b))]) hx hb dL_pinned_49 hl (k := 6) rfl rfl (by decide) rfl (fun ls hl => ?_)
              refine lv_goto (tgt := 6) hx hb dL_pinned_52 (by decide) ?_
              have e9 : sumI (mPF σ b) (i + 1) = (sumI (mPF σ b) i) + (uF σ i) := by rw [sumI_s, pn_t (bI_1.mp c_2) (Or.inr (en_f c_4))]
              exact ih (i + 1) ls H locs (by omega) (by omega) hP hD hS (by rw [e9, nI_succ]; exact lv_sub hl [2, 3, 4, 5, 6, 1, 0] rfl)
  exact loop (32 + 1) 0 _ _ _ (by omega) (Nat.zero_le _) hP hD hS (lv_sub hl [2, 3, 4, 5, 6, 1, 0] rfl)
set_option maxHeartbeats 4000000 in
set_option maxRecDepth 100000 in
theorem k_L_takeOut (l : Launch) (D : va_G) (be : Nat → Nat) (cI cJ : ClassId) (wr : va_W) (ty : List (ClassId × FieldType)) (sz : Nat) (σ : St) (ρ : Nat → Int32) (γ : Nat) {k : Nat} (hk : k < 32) (L9 : List Nat) (hR9 : Row ρ γ L9) (hn9 : L9.length ≤ 32) (hL9 : ∀ x, x ∈ L9 → x < 32) : Met l yL_takeOut wsL_takeOut ({ frames := 0, cells := 0, slots := 0, locals := 0 } : Room) (va_Pc [.ref (be 5), .ref (be 6), .int (nI k)] (xPre D (tX cI cJ ty) mE (lX be cI cJ wr) (σ, ρ, γ) sz)) (va_Qv (fun (u : LSt) => u.1 = σ ∧ Row u.2.1 u.2.2 (wo k L9)) (xB D (tX cI cJ ty) (lX be cI cJ wr) (va_A (lX be cI cJ wr (σ, ρ, γ)) sz)) (va_A (lX be cI cJ wr (σ, ρ, γ)) sz)) 0 0 (va_A (lX be cI cJ wr (σ, ρ, γ)) sz) := by
  refine xOpen (w := (lX be cI cJ wr)) (σ := (σ, ρ, γ)) (cc := cL_takeOut) (maxL := 5) (ret := none) (QQ := fun A => va_Qv (fun (u : LSt) => u.1 = σ ∧ Row u.2.1 u.2.2 (wo k L9)) (xB D (tX cI cJ ty) (lX be cI cJ wr) A) A) (by decide) rfl (Nat.le_of_ble_eq_true rfl) ?_
  intro p e s m below meth c A hx hb hr hml hown hts hlocks hname hK hE hA hP hD hS ls hl
  have hl : lv_has ls 5 [(0, .ref (be 5)), (1, .ref (be 6)), (2, .int (nI k))] := hl
  have hown : s.vm.findClass RL = some m.cls := hown
  generalize hH : s.heap = H at hP
  have hS : va_S A s.heap H [] := by rw [← hH]; exact va_S.rf
  generalize hlo : ([] : List Loc) = locs at hS
  refine lv_iconst (v := 0) hx hb dL_takeOut_0 (by decide) ?_
  refine lv_istore_n (lv' := [(3, .int 0), (0, .ref (be 5)), (1, .ref (be 6)), (2, .int (nI k))]) hx hb dL_takeOut_1 rfl hl (by decide) rfl (fun ls hl => ?_)
  refine lv_iconst (v := 0) hx hb dL_takeOut_2 (by decide) ?_
  refine lv_istore (lv' := [(4, .int 0), (3, .int 0), (0, .ref (be 5)), (1, .ref (be 6)), (2, .int (nI k))]) hx hb dL_takeOut_3 hl (by decide) rfl (fun ls hl => ?_)
  have loop : ∀ (n : Nat) (j9 : Nat) (ρ1 : Nat → Int32) (ls : Array Slot) (H : Heap) (locs : List Loc), L9.length - j9 < n → j9 ≤ L9.length → TI ρ ρ1 k L9 j9 → va_P D vwCl (lX be cI cJ wr (σ, ρ1, γ)) H → va_D A (lX be cI cJ wr (σ, ρ1, γ)) → va_S A s.heap H locs → lv_has ls 5 [(0, .ref (be 5)), (1, .ref (be 6)), (2, .int (nI k)), (3, .int (nI (TF k L9 j9).length)), (4, .int (nI j9))] → W p l e (headSpec wsL_takeOut ({ frames := 0, cells := 0, slots := 0, locals := 0 } : Room)).room s m [.ref (be 5), .ref (be 6), .int (nI k)].toArray below meth c H locs 0 0 (MQ below (va_Qv (fun (u : LSt) => u.1 = σ ∧ Row u.2.1 u.2.2 (wo k L9)) (xB D (tX cI cJ ty) (lX be cI cJ wr) A) A) [.ref (be 5), .ref (be 6), .int (nI k)].toArray s 0 0 A) (F0 m 5 ls []) := by
    intro n
    induction n with
    | zero =>
      intro j9 ρ1 ls H locs h9
      exact absurd h9 (Nat.not_lt_zero _)
    | succ n ih =>
      intro j9 ρ1 ls H locs hn9 hj hT9 hP hD hS hl
      have hγ := hR9.1
      refine lv_iload hx hb dL_takeOut_5 (lv_at hl 4 rfl) ?_
      refine lv_aload_n hx hb dL_takeOut_7 rfl (lv_at hl 1 rfl) ?_
      refine lv_iconst (v := 3) hx hb dL_takeOut_8 (by decide) ?_
      refine l_ld6 hx hb hK hP (k := 3) (by decide) (v := nI γ) rfl dL_takeOut_9 ?_
      refine x_icmp_ge (tgt := 42) hx hb dL_takeOut_10 (by decide) (fun c_1 => ?_) (fun c_1 => ?_)
      · have hj9 : j9 = L9.length := by
          rcases Nat.lt_or_ge j9 L9.length with q | q
          · exact absurd ((nI_ltI (by omega) (by omega)).mpr (by omega)) c_1
          · omega
        subst hj9
        refine lv_aload_n hx hb dL_takeOut_42 rfl (lv_at hl 1 rfl) ?_
        refine lv_iconst (v := 3) hx hb dL_takeOut_43 (by decide) ?_
        refine lv_iload_n hx hb dL_takeOut_44 rfl (lv_at hl 3 rfl) ?_
        refine l_st6_3 (η := (TF k L9 L9.length).length) hx hb hK hP hD hS dL_takeOut_45 (fun H locs hP hD hS => ?_)
        exact x_vret hx hb hr hlocks hK ((σ, ρ1, (TF k L9 L9.length).length) : LSt) hP hD hS (⟨rfl, ti_e hT9⟩) dL_takeOut_46
      · have hlt : j9 < L9.length := by
          rcases Nat.lt_or_ge j9 L9.length with q | q
          · exact q
          · exact absurd ((nI_ltI (by omega) (by omega)).mp c_1) (by omega)
        obtain ⟨y, hy⟩ : ∃ y, L9[j9]? = some y := ⟨_, List.getElem?_eq_getElem hlt⟩
        have hy32 := hL9 y (List.mem_of_getElem? hy)
        obtain ⟨e1, e2⟩ := ti_at hT9 hR9.2 hy
        have hle := tf_le k L9 j9
        refine lv_aload_n hx hb dL_takeOut_13 rfl (lv_at hl 0 rfl) ?_
        refine lv_iload_n hx hb dL_takeOut_14 rfl (lv_at hl 3 rfl) ?_
        refine lv_aload_n hx hb dL_takeOut_15 rfl (lv_at hl 0 rfl) ?_
        refine lv_iload hx hb dL_takeOut_16 (lv_at hl 4 rfl) ?_
        refine l_ld5 hx hb hK hP (k := j9) (by omega) dL_takeOut_18 ?_
        refine W.eq (g2 := F0 m 19 ls [.int (nI y), .int (nI (TF k L9 j9).length), .ref (be 5)]) (by rw [e1]) ?_
        refine l_st5 (v := nI y) (k := (TF k L9 j9).length) hx hb hK hP hD hS (by omega) dL_takeOut_19 (fun H locs hP hD hS => ?_)
        refine lv_iload_n hx hb dL_takeOut_20 rfl (lv_at hl 3 rfl) ?_
        refine lv_aload_n hx hb dL_takeOut_21 rfl (lv_at hl 0 rfl) ?_
        refine lv_iload hx hb dL_takeOut_22 (lv_at hl 4 rfl) ?_
        refine l_ld5 hx hb hK hP (k := j9) (by omega) dL_takeOut_24 ?_
        refine W.eq (g2 := F0 m 25 ls [.int (nI y), .int (nI (TF k L9 j9).length)]) (by rw [e2]) ?_
        refine lv_iload_n hx hb dL_takeOut_25 rfl (lv_at hl 2 rfl) ?_
        refine lv_icmp_ne (tgt := 33) hx hb dL_takeOut_26 (by decide) (fun c_2 => ?_) (fun c_2 => ?_)
        · refine lv_iconst (v := 1) hx hb dL_takeOut_33 (by decide) ?_
          refine lv_iadd hx hb dL_takeOut_34 ?_
          refine lv_istore_n (lv' := [(3, .int ((nI (TF k L9 j9).length) + 1)), (0, .ref (be 5)), (1, .ref (be 6)), (2, .int (nI k)), (4, .int (nI j9))]) hx hb dL_takeOut_35 rfl hl (by decide) rfl (fun ls hl => ?_)
          refine lv_iinc (v := (nI j9) + 1) (lv' := [(4, .int ((nI j9) + 1)), (3, .int ((nI (TF k L9 j9).length) + 1)), (0, .ref (be 5)), (1, .ref (be 6)), (2, .int (nI k))]) hx hb dL_takeOut_36 hl (k := 4) rfl rfl (by decide) rfl (fun ls hl => ?_)
          refine lv_goto (tgt := 5) hx hb dL_takeOut_39 (by decide) ?_
          have e3 : nI (TF k L9 (j9 + 1)).length = (nI (TF k L9 j9).length) + 1 := by rw [tf_n hy, if_neg (fun q => c_2 (by rw [q]))]; exact nI_succ _
          exact ih (j9 + 1) (upd ρ1 ((TF k L9 j9).length) (nI y)) ls H locs (by omega) (by omega) (ti_s hT9 hy) hP hD hS (by rw [e3, nI_succ]; exact lv_sub hl [2, 3, 4, 1, 0] rfl)
        · refine lv_iconst (v := 0) hx hb dL_takeOut_29 (by decide) ?_
          refine lv_goto (tgt := 34) hx hb dL_takeOut_30 (by decide) ?_
          refine lv_iadd hx hb dL_takeOut_34 ?_
          refine lv_istore_n (lv' := [(3, .int ((nI (TF k L9 j9).length) + 0)), (0, .ref (be 5)), (1, .ref (be 6)), (2, .int (nI k)), (4, .int (nI j9))]) hx hb dL_takeOut_35 rfl hl (by decide) rfl (fun ls hl => ?_)
          refine lv_iinc (v := (nI j9) + 1) (lv' := [(4, .int ((nI j9) + 1)), (3, .int ((nI (TF k L9 j9).length) + 0)), (0, .ref (be 5)), (1, .ref (be 6)), (2, .int (nI k))]) hx hb dL_takeOut_36 hl (k := 4) rfl rfl (by decide) rfl (fun ls hl => ?_)
          refine lv_goto (tgt := 5) hx hb dL_takeOut_39 (by decide) ?_
          have e3 : nI (TF k L9 (j9 + 1)).length = (nI (TF k L9 j9).length) + 0 := by rw [tf_n hy, if_pos (nI_inj32 hy32 hk c_2)]; exact (Int32.add_zero _).symm
          exact ih (j9 + 1) (upd ρ1 ((TF k L9 j9).length) (nI y)) ls H locs (by omega) (by omega) (ti_s hT9 hy) hP hD hS (by rw [e3, nI_succ]; exact lv_sub hl [2, 3, 4, 1, 0] rfl)
  exact loop (L9.length + 1) 0 ρ _ _ _ (by omega) (Nat.zero_le _) (ti_0 ρ k L9) hP hD hS (lv_sub hl [2, 3, 4, 1, 0] rfl)
set_option maxHeartbeats 4000000 in
set_option maxRecDepth 100000 in
theorem k_L_putIn (l : Launch) (D : va_G) (be : Nat → Nat) (cI cJ : ClassId) (wr : va_W) (ty : List (ClassId × FieldType)) (sz : Nat) (σ : St) (ρ : Nat → Int32) (γ : Nat) {t : Nat} (ht : t < 32) (L9 : List Nat) (P9 : Nat → Bool) (hR9 : Row ρ γ L9) (hS9 : SR σ P9 L9) (hst : ∀ x, x ∈ L9 → gT σ 7 x ≠ gT σ 7 t) : Met l yL_putIn wsL_putIn ({ frames := 0, cells := 0, slots := 0, locals := 0 } : Room) (va_Pc [.ref (be 5), .ref (be 6), .ref (be 7), .int (nI t)] (xPre D (tX cI cJ ty) mE (lX be cI cJ wr) (σ, ρ, γ) sz)) (va_Qv (fun (u : LSt) => u.1 = σ ∧ ∃ L1, Row u.2.1 u.2.2 L1 ∧ SR σ (fun k => P9 k || decide (k = t)) L1) (xB D (tX cI cJ ty) (lX be cI cJ wr) (va_A (lX be cI cJ wr (σ, ρ, γ)) sz)) (va_A (lX be cI cJ wr (σ, ρ, γ)) sz)) 0 0 (va_A (lX be cI cJ wr (σ, ρ, γ)) sz) := by
  refine xOpen (w := (lX be cI cJ wr)) (σ := (σ, ρ, γ)) (cc := cL_putIn) (maxL := 5) (ret := none) (QQ := fun A => va_Qv (fun (u : LSt) => u.1 = σ ∧ ∃ L1, Row u.2.1 u.2.2 L1 ∧ SR σ (fun k => P9 k || decide (k = t)) L1) (xB D (tX cI cJ ty) (lX be cI cJ wr) A) A) (by decide) rfl (Nat.le_of_ble_eq_true rfl) ?_
  intro p e s m below meth c A hx hb hr hml hown hts hlocks hname hK hE hA hP hD hS ls hl
  have hl : lv_has ls 5 [(0, .ref (be 5)), (1, .ref (be 6)), (2, .ref (be 7)), (3, .int (nI t))] := hl
  have hown : s.vm.findClass RL = some m.cls := hown
  generalize hH : s.heap = H at hP
  have hS : va_S A s.heap H [] := by rw [← hH]; exact va_S.rf
  generalize hlo : ([] : List Loc) = locs at hS
  refine lv_aload_n hx hb dL_putIn_0 rfl (lv_at hl 1 rfl) ?_
  refine lv_iconst (v := 3) hx hb dL_putIn_1 (by decide) ?_
  refine l_ld6 hx hb hK hP (k := 3) (by decide) (v := nI γ) rfl dL_putIn_2 ?_
  refine lv_istore (lv' := [(4, .int (nI γ)), (0, .ref (be 5)), (1, .ref (be 6)), (2, .ref (be 7)), (3, .int (nI t))]) hx hb dL_putIn_3 hl (by decide) rfl (fun ls hl => ?_)
  have hlen := sr_len hS9
  have hγ := hR9.1
  have loop : ∀ (n : Nat) (j9 : Nat) (ρ1 : Nat → Int32) (ls : Array Slot) (H : Heap) (locs : List Loc), j9 < n → j9 ≤ L9.length → PI σ ρ ρ1 t L9 j9 → va_P D vwCl (lX be cI cJ wr (σ, ρ1, γ)) H → va_D A (lX be cI cJ wr (σ, ρ1, γ)) → va_S A s.heap H locs → lv_has ls 5 [(0, .ref (be 5)), (1, .ref (be 6)), (2, .ref (be 7)), (3, .int (nI t)), (4, .int (nI j9))] → W p l e (headSpec wsL_putIn ({ frames := 0, cells := 0, slots := 0, locals := 0 } : Room)).room s m [.ref (be 5), .ref (be 6), .ref (be 7), .int (nI t)].toArray below meth c H locs 0 0 (MQ below (va_Qv (fun (u : LSt) => u.1 = σ ∧ ∃ L1, Row u.2.1 u.2.2 L1 ∧ SR σ (fun k => P9 k || decide (k = t)) L1) (xB D (tX cI cJ ty) (lX be cI cJ wr) A) A) [.ref (be 5), .ref (be 6), .ref (be 7), .int (nI t)].toArray s 0 0 A) (F0 m 5 ls []) := by
    intro n
    induction n with
    | zero =>
      intro j9 ρ1 ls H locs h9
      exact absurd h9 (Nat.not_lt_zero _)
    | succ n ih =>
      intro j9 ρ1 ls H locs hn9 hj hT9 hP hD hS hl
      refine lv_iload hx hb dL_putIn_5 (lv_at hl 4 rfl) ?_
      refine x_if_le (tgt := 77) hx hb dL_putIn_7 (by decide) (fun c_1 => ?_) (fun c_1 => ?_)
      · have hj0 : j9 = 0 := by
          rcases Nat.eq_zero_or_pos j9 with q | q
          · exact q
          · exact absurd (by rw [← nI_0]; exact nI_lt q (by omega)) c_1
        have hE9 : j9 = 0 ∨ ∃ q y, j9 = q + 1 ∧ L9[q]? = some y ∧ bef σ t y = false := Or.inl hj0
        refine lv_aload_n hx hb dL_putIn_77 rfl (lv_at hl 0 rfl) ?_
        refine lv_iload hx hb dL_putIn_78 (lv_at hl 4 rfl) ?_
        refine lv_iload_n hx hb dL_putIn_80 rfl (lv_at hl 3 rfl) ?_
        refine l_st5 (v := nI t) (k := j9) hx hb hK hP hD hS (by omega) dL_putIn_81 (fun H locs hP hD hS => ?_)
        refine lv_aload_n hx hb dL_putIn_82 rfl (lv_at hl 1 rfl) ?_
        refine lv_iconst (v := 3) hx hb dL_putIn_83 (by decide) ?_
        refine lv_dup2_11 hx hb dL_putIn_84 rfl rfl ?_
        refine l_ld6 hx hb hK hP (k := 3) (by decide) (v := nI γ) rfl dL_putIn_85 ?_
        refine lv_iconst (v := 1) hx hb dL_putIn_86 (by decide) ?_
        refine lv_iadd hx hb dL_putIn_87 ?_
        refine W.eq (g2 := F0 m 88 ls [.int (nI (γ + 1)), .int 3, .ref (be 6)]) (by rw [nI_succ]) ?_
        refine l_st6_3 (η := (γ + 1)) hx hb hK hP hD hS dL_putIn_88 (fun H locs hP hD hS => ?_)
        exact x_vret hx hb hr hlocks hK ((σ, upd ρ1 j9 (nI t), (γ + 1)) : LSt) hP hD hS (⟨rfl, by rw [show γ + 1 = L9.length + 1 by rw [hγ]]; exact pi_e hT9 hj hR9.2 hS9 ht hst hE9⟩) dL_putIn_89
      · obtain ⟨q9, rfl⟩ : ∃ q9, j9 = q9 + 1 := by
          cases j9 with
          | zero => exact absurd c_1 (by decide)
          | succ q9 => exact ⟨q9, rfl⟩
        have hl : lv_has ls 5 [(0, .ref (be 5)), (1, .ref (be 6)), (2, .ref (be 7)), (3, .int (nI t)), (4, .int (nI (q9 + 1)))] := hl
        have hlt : q9 < L9.length := by omega
        obtain ⟨y, hy⟩ : ∃ y, L9[q9]? = some y := ⟨_, List.getElem?_eq_getElem hlt⟩
        have hy32 := sr_lt hS9 (List.mem_of_getElem? hy)
        have e1 : ρ1 q9 = nI y := by rw [hT9.1 q9 (by omega)]; exact hR9.2 q9 y hy
        refine lv_aload_n hx hb dL_putIn_10 rfl (lv_at hl 2 rfl) ?_
        refine lv_aload_n hx hb dL_putIn_11 rfl (lv_at hl 0 rfl) ?_
        refine lv_iload hx hb dL_putIn_12 (lv_at hl 4 rfl) ?_
        refine lv_iconst (v := 1) hx hb dL_putIn_14 (by decide) ?_
        refine lv_isub hx hb dL_putIn_15 ?_
        refine W.eq (g2 := F0 m 16 ls [.int (nI q9), .ref (be 5), .ref (be 7)]) (by rw [nI_pred]) ?_
        refine l_ld5 hx hb hK hP (k := q9) (by omega) dL_putIn_16 ?_
        refine W.eq (g2 := F0 m 17 ls [.int (nI y), .ref (be 7)]) (by rw [e1]) ?_
        refine l_ld7 hx hb hK hP hy32 dL_putIn_17 ?_
        refine lv_aload_n hx hb dL_putIn_18 rfl (lv_at hl 2 rfl) ?_
        refine lv_iload_n hx hb dL_putIn_19 rfl (lv_at hl 3 rfl) ?_
        refine l_ld7 hx hb hK hP ht dL_putIn_20 ?_
        refine x_gt (tgt := 61) hx hb dL_putIn_21 dL_putIn_22 (by decide) (fun c_2 => ?_) (fun c_2 => ?_)
        · refine lv_aload_n hx hb dL_putIn_61 rfl (lv_at hl 0 rfl) ?_
          refine lv_iload hx hb dL_putIn_62 (lv_at hl 4 rfl) ?_
          refine lv_aload_n hx hb dL_putIn_64 rfl (lv_at hl 0 rfl) ?_
          refine lv_iload hx hb dL_putIn_65 (lv_at hl 4 rfl) ?_
          refine lv_iconst (v := 1) hx hb dL_putIn_67 (by decide) ?_
          refine lv_isub hx hb dL_putIn_68 ?_
          refine W.eq (g2 := F0 m 69 ls [.int (nI q9), .ref (be 5), .int (nI (q9 + 1)), .ref (be 5)]) (by rw [nI_pred]) ?_
          refine l_ld5 hx hb hK hP (k := q9) (by omega) dL_putIn_69 ?_
          refine l_st5 (v := ρ1 q9) (k := (q9 + 1)) hx hb hK hP hD hS (by omega) dL_putIn_70 (fun H locs hP hD hS => ?_)
          refine lv_iinc (v := (nI (q9 + 1)) + -1) (lv' := [(4, .int ((nI (q9 + 1)) + -1)), (0, .ref (be 5)), (1, .ref (be 6)), (2, .ref (be 7)), (3, .int (nI t))]) hx hb dL_putIn_71 hl (k := 4) rfl rfl (by decide) rfl (fun ls hl => ?_)
          refine lv_goto (tgt := 5) hx hb dL_putIn_74 (by decide) ?_
          exact ih q9 (upd ρ1 (q9 + 1) (ρ1 q9)) ls H locs (by omega) (by omega) (pi_s hT9 hy (bef_y (Or.inl c_2))) hP hD hS (by rw [← pk_m1 q9]; exact lv_sub hl [1, 2, 3, 4, 0] rfl)
        · refine lv_aload_n hx hb dL_putIn_25 rfl (lv_at hl 2 rfl) ?_
          refine lv_aload_n hx hb dL_putIn_26 rfl (lv_at hl 0 rfl) ?_
          refine lv_iload hx hb dL_putIn_27 (lv_at hl 4 rfl) ?_
          refine lv_iconst (v := 1) hx hb dL_putIn_29 (by decide) ?_
          refine lv_isub hx hb dL_putIn_30 ?_
          refine W.eq (g2 := F0 m 31 ls [.int (nI q9), .ref (be 5), .ref (be 7)]) (by rw [nI_pred]) ?_
          refine l_ld5 hx hb hK hP (k := q9) (by omega) dL_putIn_31 ?_
          refine W.eq (g2 := F0 m 32 ls [.int (nI y), .ref (be 7)]) (by rw [e1]) ?_
          refine l_ld7 hx hb hK hP hy32 dL_putIn_32 ?_
          refine lv_aload_n hx hb dL_putIn_33 rfl (lv_at hl 2 rfl) ?_
          refine lv_iload_n hx hb dL_putIn_34 rfl (lv_at hl 3 rfl) ?_
          refine l_ld7 hx hb hK hP ht dL_putIn_35 ?_
          refine x_ne (tgt := 77) hx hb dL_putIn_36 dL_putIn_37 (by decide) (fun c_3 => ?_) (fun c_3 => ?_)
          · have hE9 : (q9 + 1) = 0 ∨ ∃ q y, (q9 + 1) = q + 1 ∧ L9[q]? = some y ∧ bef σ t y = false := Or.inr ⟨q9, y, rfl, hy, bef_n (fun z => z.elim c_2 (fun w => c_3 w.1.symm))⟩
            refine lv_aload_n hx hb dL_putIn_77 rfl (lv_at hl 0 rfl) ?_
            refine lv_iload hx hb dL_putIn_78 (lv_at hl 4 rfl) ?_
            refine lv_iload_n hx hb dL_putIn_80 rfl (lv_at hl 3 rfl) ?_
            refine l_st5 (v := nI t) (k := (q9 + 1)) hx hb hK hP hD hS (by omega) dL_putIn_81 (fun H locs hP hD hS => ?_)
            refine lv_aload_n hx hb dL_putIn_82 rfl (lv_at hl 1 rfl) ?_
            refine lv_iconst (v := 3) hx hb dL_putIn_83 (by decide) ?_
            refine lv_dup2_11 hx hb dL_putIn_84 rfl rfl ?_
            refine l_ld6 hx hb hK hP (k := 3) (by decide) (v := nI γ) rfl dL_putIn_85 ?_
            refine lv_iconst (v := 1) hx hb dL_putIn_86 (by decide) ?_
            refine lv_iadd hx hb dL_putIn_87 ?_
            refine W.eq (g2 := F0 m 88 ls [.int (nI (γ + 1)), .int 3, .ref (be 6)]) (by rw [nI_succ]) ?_
            refine l_st6_3 (η := (γ + 1)) hx hb hK hP hD hS dL_putIn_88 (fun H locs hP hD hS => ?_)
            exact x_vret hx hb hr hlocks hK ((σ, upd ρ1 (q9 + 1) (nI t), (γ + 1)) : LSt) hP hD hS (⟨rfl, by rw [show γ + 1 = L9.length + 1 by rw [hγ]]; exact pi_e hT9 hj hR9.2 hS9 ht hst hE9⟩) dL_putIn_89
          · refine lv_aload_n hx hb dL_putIn_40 rfl (lv_at hl 2 rfl) ?_
            refine lv_bipush (v := 32) hx hb dL_putIn_41 (by decide) ?_
            refine lv_aload_n hx hb dL_putIn_43 rfl (lv_at hl 0 rfl) ?_
            refine lv_iload hx hb dL_putIn_44 (lv_at hl 4 rfl) ?_
            refine lv_iconst (v := 1) hx hb dL_putIn_46 (by decide) ?_
            refine lv_isub hx hb dL_putIn_47 ?_
            refine W.eq (g2 := F0 m 48 ls [.int (nI q9), .ref (be 5), .int 32, .ref (be 7)]) (by rw [nI_pred]) ?_
            refine l_ld5 hx hb hK hP (k := q9) (by omega) dL_putIn_48 ?_
            refine W.eq (g2 := F0 m 49 ls [.int (nI y), .int 32, .ref (be 7)]) (by rw [e1]) ?_
            refine lv_iadd hx hb dL_putIn_49 ?_
            refine l_ld7b hx hb hK hP hy32 dL_putIn_50 ?_
            refine lv_aload_n hx hb dL_putIn_51 rfl (lv_at hl 2 rfl) ?_
            refine lv_bipush (v := 32) hx hb dL_putIn_52 (by decide) ?_
            refine lv_iload_n hx hb dL_putIn_54 rfl (lv_at hl 3 rfl) ?_
            refine lv_iadd hx hb dL_putIn_55 ?_
            refine l_ld7b hx hb hK hP ht dL_putIn_56 ?_
            refine x_le (tgt := 77) hx hb dL_putIn_57 dL_putIn_58 (by decide) (fun c_4 => ?_) (fun c_4 => ?_)
            · have hE9 : (q9 + 1) = 0 ∨ ∃ q y, (q9 + 1) = q + 1 ∧ L9[q]? = some y ∧ bef σ t y = false := Or.inr ⟨q9, y, rfl, hy, bef_n (fun z => z.elim c_2 (fun w => c_4 w.2))⟩
              refine lv_aload_n hx hb dL_putIn_77 rfl (lv_at hl 0 rfl) ?_
              refine lv_iload hx hb dL_putIn_78 (lv_at hl 4 rfl) ?_
              refine lv_iload_n hx hb dL_putIn_80 rfl (lv_at hl 3 rfl) ?_
              refine l_st5 (v := nI t) (k := (q9 + 1)) hx hb hK hP hD hS (by omega) dL_putIn_81 (fun H locs hP hD hS => ?_)
              refine lv_aload_n hx hb dL_putIn_82 rfl (lv_at hl 1 rfl) ?_
              refine lv_iconst (v := 3) hx hb dL_putIn_83 (by decide) ?_
              refine lv_dup2_11 hx hb dL_putIn_84 rfl rfl ?_
              refine l_ld6 hx hb hK hP (k := 3) (by decide) (v := nI γ) rfl dL_putIn_85 ?_
              refine lv_iconst (v := 1) hx hb dL_putIn_86 (by decide) ?_
              refine lv_iadd hx hb dL_putIn_87 ?_
              refine W.eq (g2 := F0 m 88 ls [.int (nI (γ + 1)), .int 3, .ref (be 6)]) (by rw [nI_succ]) ?_
              refine l_st6_3 (η := (γ + 1)) hx hb hK hP hD hS dL_putIn_88 (fun H locs hP hD hS => ?_)
              exact x_vret hx hb hr hlocks hK ((σ, upd ρ1 (q9 + 1) (nI t), (γ + 1)) : LSt) hP hD hS (⟨rfl, by rw [show γ + 1 = L9.length + 1 by rw [hγ]]; exact pi_e hT9 hj hR9.2 hS9 ht hst hE9⟩) dL_putIn_89
            · refine lv_aload_n hx hb dL_putIn_61 rfl (lv_at hl 0 rfl) ?_
              refine lv_iload hx hb dL_putIn_62 (lv_at hl 4 rfl) ?_
              refine lv_aload_n hx hb dL_putIn_64 rfl (lv_at hl 0 rfl) ?_
              refine lv_iload hx hb dL_putIn_65 (lv_at hl 4 rfl) ?_
              refine lv_iconst (v := 1) hx hb dL_putIn_67 (by decide) ?_
              refine lv_isub hx hb dL_putIn_68 ?_
              refine W.eq (g2 := F0 m 69 ls [.int (nI q9), .ref (be 5), .int (nI (q9 + 1)), .ref (be 5)]) (by rw [nI_pred]) ?_
              refine l_ld5 hx hb hK hP (k := q9) (by omega) dL_putIn_69 ?_
              refine l_st5 (v := ρ1 q9) (k := (q9 + 1)) hx hb hK hP hD hS (by omega) dL_putIn_70 (fun H locs hP hD hS => ?_)
              refine lv_iinc (v := (nI (q9 + 1)) + -1) (lv' := [(4, .int ((nI (q9 + 1)) + -1)), (0, .ref (be 5)), (1, .ref (be 6)), (2, .ref (be 7)), (3, .int (nI t))]) hx hb dL_putIn_71 hl (k := 4) rfl rfl (by decide) rfl (fun ls hl => ?_)
              refine lv_goto (tgt := 5) hx hb dL_putIn_74 (by decide) ?_
              exact ih q9 (upd ρ1 (q9 + 1) (ρ1 q9)) ls H locs (by omega) (by omega) (pi_s hT9 hy (bef_y (Or.inr ⟨c_3.symm, c_4⟩))) hP hD hS (by rw [← pk_m1 q9]; exact lv_sub hl [1, 2, 3, 4, 0] rfl)
  exact loop (γ + 1) γ ρ _ _ _ (by omega) (by omega) (by rw [hR9.1]; exact pi_0 σ ρ t L9) hP hD hS (lv_sub hl [1, 2, 3, 4, 0] rfl)
