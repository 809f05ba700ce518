/-! ===== the start's state ===== -/
def mI (i : Nat) : St := (fun j => if j = 3 then 100 else if j = 4 then 1000 else 0, fun _ => 0, fun j k => if j = 0 then nI k else if j = 8 then (if k < i then -1 else 0) else 0, fun _ _ => 0, fun _ _ => false)
def σ0 : St := mI 32
theorem mI_s (i : Nat) : uS (mI i) 8 i (-1) = mI (i + 1) := by
  have h : va_up (mI i).2.2.1 8 (va_up ((mI i).2.2.1 8) i (-1)) = (mI (i + 1)).2.2.1 := by
    funext j k
    by_cases hj : j = 8
    · subst hj
      by_cases hk : k = i
      · subst hk; simp [va_up, mI]
      · have h1 : (k < i + 1) ↔ k < i := by omega
        simp [va_up, mI, hk, h1]
    · simp [va_up, mI, hj]
  show ((mI i).1, (mI i).2.1, va_up (mI i).2.2.1 8 (va_up ((mI i).2.2.1 8) i (-1)), (mI i).2.2.2) = mI (i + 1)
  rw [h]
  rfl
theorem sF_0 {k : Nat} (h : k < 32) : sF σ0 k = [.int (nI k), .int 0, .int 0, .int 0, .int 0, .int 0, .long 0, .long 0, .int (-1)] := by
  have h1 : gS σ0 8 k = -1 := by simp [gS, σ0, mI, h]
  show ([.int (nI k), .int 0, .int 0, .int 0, .int 0, .int 0, .long 0, .long 0, .int (gS σ0 8 k)] : List Value) = _
  rw [h1]
theorem arrV_congr (cI : ClassId) {N : Nat} {f g : Nat → Value} (h : ∀ j, j < N → f j = g j) : arrV cI N f = arrV cI N g := by
  unfold arrV
  have e : (fun j : Fin N => f j.val) = (fun j : Fin N => g j.val) := funext fun j => h j.val j.isLt
  rw [e]
abbrev z0 : List Value := [.int 0, .int 0, .int 0, .int 0, .int 0, .int 0, .long 0, .long 0, .int 0]
abbrev wI0 (ws : va_W) (h0 : Nat) (fs : List Value) : va_W := ws ++ [(h0, .inr (0, fs))]
abbrev z1 : List Value := [.null, .int 0, .long 0, .int 0, .int 0, .long 0, .int 0, .int 0, .long 0, .long 0, .long 0, .int 0, .int 0]
abbrev wI1 (ax : Nat) (fs : List Value) : va_W := [(ax, .inr (1, fs))]
theorem set_app {α : Type} (ws : List α) (x y : α) : (ws ++ [x]).set ws.length y = ws ++ [y] := by simp
theorem get_app {α : Type} (ws : List α) (x : α) : (ws ++ [x])[ws.length]? = some x := by simp
set_option maxHeartbeats 4000000 in
set_option maxRecDepth 100000 in
theorem k_X0_init (l : Launch) (D : va_G) (ws : va_W) (h0 : Nat) (tys : List (ClassId × FieldType)) (sz : Nat) (k : Int32) : Met l yX0_init wsX0_init ({ frames := 1, cells := 0, slots := 0, locals := 20 } : Room) (va_Pc [.ref h0, .int k] (xPre D tys mE (wI0 ws h0) z0 sz)) (va_Qv (fun (u : List Value) => u = [.int k, .int 0, .int 0, .int 0, .int 0, .int 0, .long 0, .long 0, .int (-1)]) (xB D tys (wI0 ws h0) (va_A (wI0 ws h0 z0) sz)) (va_A (wI0 ws h0 z0) sz)) 0 0 (va_A (wI0 ws h0 z0) sz) := by
  refine xOpen (w := wI0 ws h0) (σ := z0) (cc := cX0_init) (maxL := 2) (ret := none) (QQ := fun A => va_Qv (fun (u : List Value) => u = [.int k, .int 0, .int 0, .int 0, .int 0, .int 0, .long 0, .long 0, .int (-1)]) (xB D tys (wI0 ws h0) A) A) (by decide) rfl (Nat.le_of_ble_eq_true rfl) ?_
  intro p e s m below meth c A hx hb hr hml hown hts hlocks hname hK hE hA hP hD hS ls hl
  have hl : lv_has ls 2 [(0, .ref h0), (1, .int k)] := hl
  have hown : s.vm.findClass RX0 = some m.cls := hown
  have hname : meth.name = "<init>" := hname
  have hi : ∀ w ∈ wsX00, w ∈ wsX0_init := (fun _ h => List.mem_cons_of_mem _ (List.mem_append_right _ h))
  generalize hH : s.heap = H at hP
  have hS : va_S A s.heap H [] := by rw [← hH]; exact va_S.rf
  generalize hlo : ([] : List Loc) = locs at hS
  refine lv_aload_n hx hb dX0_init_0 rfl (lv_at hl 0 rfl) ?_
  refine W.objInit hx hb hown (hts (.methodLink RX0 3 objectInit) (List.mem_of_getElem? (i := 1) rfl)) (hts (.instanceMethod objectInit) (List.mem_of_getElem? (i := 2) rfl)) (hts _ (List.mem_of_getElem? (i := 3) rfl)) rfl (by rw [hml]; exact hl.1) rfl dX0_init_1 (Nat.le_of_ble_eq_true rfl) (Nat.le_of_ble_eq_true rfl) ?_
  refine W.eq (g2 := F0 m 4 ls []) rfl ?_
  refine lv_aload_n hx hb dX0_init_4 rfl (lv_at hl 0 rfl) ?_
  refine lv_iconst (v := -1) hx hb dX0_init_5 (by decide) ?_
  refine va_put (ci := 0) (v := .int (-1)) (ty := .int) (C := RX0) (T := TX0) (N := 9) hx hb hts hi tyX0 tyX0_ok nmX0 hown hK hP hD hS ws.length (get_app _ _) rfl 8 (by decide) (hts (.fieldLink RX0 9 "WorthCache$Slot" "lastMiss" "I") (List.mem_of_getElem? (i := 4) rfl)) (fun _ h => h) rfl (by decide +kernel) rfl rfl (Nat.le_of_ble_eq_true rfl) dX0_init_6 (fun H locs hP hD hS => ?_)
  rw [set_app] at hP hD
  refine lv_aload_n hx hb dX0_init_9 rfl (lv_at hl 0 rfl) ?_
  refine lv_iload_n hx hb dX0_init_10 rfl (lv_at hl 1 rfl) ?_
  refine va_putF (ci := 0) (v := .int k) (ty := .int) (C := RX0) (T := TX0) (N := 9) hx hb hts hi tyX0 tyX0_ok nmX0 hown hK hP hD hS ws.length (get_app _ _) rfl 0 (by decide) (hts (.fieldLink RX0 15 "WorthCache$Slot" "thing" "I") (List.mem_of_getElem? (i := 5) rfl)) (fun _ h => h) rfl hname rfl (by decide +kernel) rfl rfl (Nat.le_of_ble_eq_true rfl) dX0_init_11 (fun H locs hP hD hS => ?_)
  rw [set_app] at hP hD
  exact x_vret (w := wI0 ws h0) hx hb hr hlocks hK [.int k, .int 0, .int 0, .int 0, .int 0, .int 0, .long 0, .long 0, .int (-1)] hP hD hS rfl dX0_init_14
def xN : Cond := .methodLinkNest "WorthCache" 22 yX0_init "WorthCache"
def xNE (_ : Nat → Prop) (U : State) (_ : Heap) : Prop := va_AO RX0 U ∧ va_Nw xN U
theorem xNE_ok : xEok xNE := fun _ _ _ _ _ _ hW _ _ h => ⟨va_AO.moved hW.alike h.1, va_Nw.warmM hW h.2⟩
def cWi (ax ar : Nat) (ad : Nat → Nat) (cO : ClassId) (i : Nat) : va_W := (ax, .inr (1, cF ar σ0)) :: (ar, .inl (cO, 32, .inr (.inr (.inr (.inr (fun k => if k < i then some (ad k) else none)))))) :: (List.range i).map (fun k => (ad k, .inr (0, sF σ0 k)))
theorem cWi_len (ax ar : Nat) (ad : Nat → Nat) (cO : ClassId) (i : Nat) : (cWi ax ar ad cO i).length = i + 2 := by simp [cWi]
theorem cWi_s (ax ar : Nat) (ad : Nat → Nat) (cO : ClassId) (i q : Nat) : (cWi ax ar ad cO i ++ [(q, (Sum.inr (0, sF σ0 i) : va_E))]).set 1 (ar, .inl (cO, 32, .inr (.inr (.inr (.inr (va_up (fun k => if k < i then some (ad k) else none) i (some q))))))) = cWi ax ar (va_up ad i q) cO (i + 1) := by
  have e1 : va_up (fun k => if k < i then some (ad k) else none) i (some q) = (fun k => if k < i + 1 then some (va_up ad i q k) else none) := by
    funext k
    by_cases hk : k = i
    · subst hk; simp [va_up]
    · have h1 : (k < i + 1) ↔ k < i := by omega
      simp [va_up, hk, h1]
  have e2 : (List.range i).map (fun k => (va_up ad i q k, (Sum.inr (0, sF σ0 k) : va_E))) = (List.range i).map (fun k => (ad k, (Sum.inr (0, sF σ0 k) : va_E))) := by
    apply List.map_congr_left
    intro k hk
    have h1 : k ≠ i := by have := List.mem_range.mp hk; omega
    simp [va_up, h1]
  have e3 : (va_up ad i q i) = q := by simp [va_up]
  unfold cWi
  rw [List.range_succ, List.map_append, e1, e2]
  simp [e3]
theorem cWi_32 {D : va_G} {ax ar : Nat} {ad : Nat → Nat} {cO : ClassId} {H : Heap} (h : va_P D vwCl (cWi ax ar ad cO 32) H) : va_P D vwCl (cW ax ar ad cO σ0) H := by
  intro k q hk
  by_cases h1 : k = 1
  · subst h1
    have h2 : q = (ar, .inl (cO, 32, .inr (.inr (.inr (.inr (fun k => some (ad k))))))) := (Option.some.inj hk).symm
    have h3 := h 1 _ rfl
    rw [h2]
    show H[ar]? = some (vp_cell cO _)
    have h4 : H[ar]? = some (vp_cell cO (32, .inr (.inr (.inr (.inr (fun k => if k < 32 then some (ad k) else none)))))) := h3
    rw [h4, vp_cell_q, vp_cell_q]
    congr 1
  · refine h k q ?_
    cases k with
    | zero => exact hk
    | succ k =>
      cases k with
      | zero => exact absurd rfl h1
      | succ k => exact hk
theorem cWi_D {A : Nat → Prop} {ax ar : Nat} {ad : Nat → Nat} {cO : ClassId} (h : va_D A (cWi ax ar ad cO 32)) : va_D A (cW ax ar ad cO σ0) := va_D_same h (by simp [cWi, cW, cPl])
def xO (D : va_G) (ax : Nat) (A : Nat → Prop) (u : Nat × (Nat → Nat) × ClassId) (t : State) : Prop := va_P D vwCl (cW ax u.1 u.2.1 u.2.2 σ0) t.heap ∧ va_K D vwCl (cT u.2.2) t ∧ va_D A (cW ax u.1 u.2.1 u.2.2 σ0)
set_option maxHeartbeats 4000000 in
set_option maxRecDepth 100000 in
theorem k_X1_init (l : Launch) (D : va_G) (ax : Nat) (sz : Nat) : Met l yX1_init wsX1_init ({ frames := 2, cells := 33, slots := 320, locals := 41 } : Room) (va_Pc [.ref ax] (xPre D [] xNE (wI1 ax) z1 sz)) (va_Qv (fun _ => True) (xO D ax (va_A (wI1 ax z1) sz)) (va_A (wI1 ax z1) sz)) 33 320 (va_A (wI1 ax z1) sz) := by
  refine xOpen (w := wI1 ax) (σ := z1) (cc := cX1_init) (maxL := 2) (ret := none) (QQ := fun A => va_Qv (fun _ => True) (xO D ax A) A) (by decide) rfl (Nat.le_of_ble_eq_true rfl) ?_
  intro p e s m below meth c A hx hb hr hml hown hts hlocks hname hK hE hA hP hD hS ls hl
  have hl : lv_has ls 2 [(0, .ref ax)] := hl
  have hown : s.vm.findClass RX1 = some m.cls := hown
  have hname : meth.name = "<init>" := hname
  have hi1 : ∀ w ∈ wsX10, w ∈ wsX1_init := (fun _ h => List.mem_cons_of_mem _ (List.mem_append_left _ (List.mem_append_right _ h)))
  have hi0 : ∀ w ∈ wsX00, w ∈ wsX1_init := (fun _ h => List.mem_cons_of_mem _ (List.mem_append_right _ h))
  generalize hH : s.heap = H at hP
  have hS : va_S A s.heap H [] := by rw [← hH]; exact va_S.rf
  generalize hlo : ([] : List Loc) = locs at hS
  have hP : va_P D vwCl [(ax, .inr (1, z1))] H := hP
  have hD : va_D A [(ax, .inr (1, z1))] := hD
  refine lv_aload_n hx hb dX1_init_0 rfl (lv_at hl 0 rfl) ?_
  refine W.objInit hx hb hown (hts (.methodLink RX1 1 objectInit) (List.mem_of_getElem? (i := 1) rfl)) (hts (.instanceMethod objectInit) (List.mem_of_getElem? (i := 2) rfl)) (hts _ (List.mem_of_getElem? (i := 3) rfl)) rfl (by rw [hml]; exact hl.1) rfl dX1_init_1 (Nat.le_of_ble_eq_true rfl) (Nat.le_of_ble_eq_true rfl) ?_
  refine W.eq (g2 := F0 m 4 ls []) rfl ?_
  refine lv_aload_n hx hb dX1_init_4 rfl (lv_at hl 0 rfl) ?_
  refine lv_bipush (v := 32) hx hb dX1_init_5 (by decide) ?_
  refine va_newq (C := RX0) (N' := 32) hx hb hown (hts (.classLink RX1 9 RX0) (List.mem_of_getElem? (i := 4) rfl)) hE.1 hK hP hD hS hA (by decide) (by decide) (by decide) (Nat.le_of_ble_eq_true rfl) (Nat.le_of_ble_eq_true rfl) dX1_init_7 (fun ar cO H hK hP hD hS => ?_)
  have hK : va_K D vwCl (cT cO) s := hK
  refine va_putF (ci := 1) (v := .ref ar) (ty := .array (.object "WorthCache$Slot")) (C := RX1) (T := TX1) (N := 13) hx hb hts hi1 tyX1 tyX1_ok nmX1 hown hK hP hD hS 0 rfl rfl 0 (by decide) (hts (.fieldLink RX1 11 "WorthCache" "slots" "[LWorthCache$Slot;") (List.mem_of_getElem? (i := 5) rfl)) (fun _ h => h) rfl hname rfl (by decide +kernel) rfl rfl (Nat.le_of_ble_eq_true rfl) dX1_init_10 (fun H locs hP hD hS => ?_)
  refine lv_aload_n hx hb dX1_init_13 rfl (lv_at hl 0 rfl) ?_
  refine lv_bipush (v := 100) hx hb dX1_init_14 (by decide) ?_
  refine va_put (ci := 1) (v := .int 100) (ty := .int) (C := RX1) (T := TX1) (N := 13) hx hb hts hi1 tyX1 tyX1_ok nmX1 hown hK hP hD hS 0 rfl rfl 3 (by decide) (hts (.fieldLink RX1 15 "WorthCache" "capacity" "I") (List.mem_of_getElem? (i := 6) rfl)) (fun _ h => h) rfl (by decide +kernel) rfl rfl (Nat.le_of_ble_eq_true rfl) dX1_init_16 (fun H locs hP hD hS => ?_)
  refine lv_aload_n hx hb dX1_init_19 rfl (lv_at hl 0 rfl) ?_
  refine lv_sipush (v := 1000) hx hb dX1_init_20 (by decide) ?_
  refine va_put (ci := 1) (v := .int 1000) (ty := .int) (C := RX1) (T := TX1) (N := 13) hx hb hts hi1 tyX1 tyX1_ok nmX1 hown hK hP hD hS 0 rfl rfl 4 (by decide) (hts (.fieldLink RX1 19 "WorthCache" "threshold" "I") (List.mem_of_getElem? (i := 7) rfl)) (fun _ h => h) rfl (by decide +kernel) rfl rfl (Nat.le_of_ble_eq_true rfl) dX1_init_23 (fun H locs hP hD hS => ?_)
  have e0 : ∀ ad : Nat → Nat, cWi ax ar ad cO 0 = [(ax, .inr (1, [.ref ar, .int 0, .long 0, .int 100, .int 1000, .long 0, .int 0, .int 0, .long 0, .long 0, .long 0, .int 0, .int 0])), (ar, .inl (cO, 32, .inr (.inr (.inr (.inr (fun _ => none))))))] := fun ad => by simp [cWi, cF, gI, gL, σ0, mI]
  have hP : va_P D vwCl (cWi ax ar (fun _ => 0) cO 0) H := by rw [e0]; exact hP
  have hD : va_D A (cWi ax ar (fun _ => 0) cO 0) := by rw [e0]; exact hD
  refine lv_iconst (v := 0) hx hb dX1_init_26 (by decide) ?_
  refine lv_istore_n (lv' := [(1, .int 0), (0, .ref ax)]) hx hb dX1_init_27 rfl hl (by decide) rfl (fun ls hl => ?_)
  have loop : ∀ (n i : Nat) (ad : Nat → Nat) (ls : Array Slot) (H : Heap) (locs : List Loc), i ≤ 32 → 32 - i < n → va_P D vwCl (cWi ax ar ad cO i) H → va_D A (cWi ax ar ad cO i) → va_S A s.heap H locs → lv_has ls 2 [(0, .ref ax), (1, .int (nI i))] → W p l e (headSpec wsX1_init ({ frames := 2, cells := 33, slots := 320, locals := 41 } : Room)).room s m [.ref ax].toArray below meth c H locs (1 + i) (32 + 9 * i) (MQ below (va_Qv (fun _ => True) (xO D ax A) A) [.ref ax].toArray s 33 320 A) (F0 m 28 ls []) := by
    intro n
    induction n with
    | zero =>
      intro i ad ls H locs h1 h2
      exact absurd h2 (by omega)
    | succ n ih =>
      intro i ad ls H locs hi hn hP hD hS hl
      refine lv_iload_n hx hb dX1_init_28 rfl (lv_at hl 1 rfl) ?_
      refine lv_aload_n hx hb dX1_init_29 rfl (lv_at hl 0 rfl) ?_
      refine va_get (ci := 1) (v := .ref ar) (C := RX1) (T := TX1) (N := 13) hx hb hts hi1 hown hK hP 0 rfl rfl 0 (by decide) (hts (.fieldLink RX1 11 "WorthCache" "slots" "[LWorthCache$Slot;") (List.mem_of_getElem? (i := 5) rfl)) (fun _ h => h) rfl dX1_init_30 ?_
      refine va_alen hx hb hK hP 1 0 rfl rfl (v := 32) rfl dX1_init_33 ?_
      refine x_icmp_ge (tgt := 57) hx hb dX1_init_34 (by decide) (fun c_1 => ?_) (fun c_1 => ?_)
      · have hi9 : i = 32 := by
          rcases Nat.lt_or_ge i 32 with q | q
          · exact absurd ((nI_lt32 hi).mpr q) c_1
          · omega
        subst hi9
        exact W.vret hx hb hr (fun t ht hW => ⟨⟨(ar, ad, cO), rfl, trivial, by rw [ht]; exact cWi_32 hP, va_K.moved hW.alike hK, cWi_D hD⟩, hS.F ht⟩) hS.2.2 dX1_init_57
      · have hlt : i < 32 := (nI_lt32 hi).mp c_1
        refine lv_aload_n hx hb dX1_init_37 rfl (lv_at hl 0 rfl) ?_
        refine va_get (ci := 1) (v := .ref ar) (C := RX1) (T := TX1) (N := 13) hx hb hts hi1 hown hK hP 0 rfl rfl 0 (by decide) (hts (.fieldLink RX1 11 "WorthCache" "slots" "[LWorthCache$Slot;") (List.mem_of_getElem? (i := 5) rfl)) (fun _ h => h) rfl dX1_init_38 ?_
        refine lv_iload_n hx hb dX1_init_41 rfl (lv_at hl 1 rfl) ?_
        have hcl : 1 + i + 1 ≤ 33 := by omega
        have hsl : 32 + 9 * i + 9 ≤ 320 := by omega
        refine va_new (ci := 0) (fs := [.int 0, .int 0, .int 0, .int 0, .int 0, .int 0, .long 0, .long 0, .int 0]) (C := RX0) (T := TX0) (N := 9) hx hb hts hi0 tyX0 tyX0_ok hown (hts (.classLink RX1 9 RX0) (List.mem_of_getElem? (i := 4) rfl)) (hts (.instantiable RX0 9) (List.mem_of_getElem? (i := 8) rfl)) (hts (.initialized RX0) (List.mem_of_getElem? (i := 9) rfl)) hK hP hD hS hA rfl (fun j hj => by rcases (show j = 0 ∨ j = 1 ∨ j = 2 ∨ j = 3 ∨ j = 4 ∨ j = 5 ∨ j = 6 ∨ j = 7 ∨ j = 8 by omega) with rfl | rfl | rfl | rfl | rfl | rfl | rfl | rfl | rfl <;> rfl) hcl hsl dX1_init_42 (fun q5 H hP hD hS => ?_)
        refine lv_dup hx hb dX1_init_45 rfl ?_
        refine lv_iload_n hx hb dX1_init_46 rfl (lv_at hl 1 rfl) ?_
        refine x_callv (va_runIN (As := [.int (nI i)]) (rest := [.ref q5, .int (nI i), .ref ar]) ⟨hx, hb, hml, hown, hts⟩ (k_X0_init l D (cWi ax ar ad cO i) q5 (cT cO) H.size (nI i)) ⟨va_cnB 1 hts gX1_init_X0_init_n22 rfl rfl rfl hE.2 (hts (.initialized RX0) (List.mem_of_getElem? (i := 9) rfl)) (by decide +kernel) ⟨Nat.le_of_ble_eq_true rfl, Nat.le_of_ble_eq_true rfl⟩, rfl, hts (.instanceMethod yX0_init) (List.mem_of_getElem? (i := 10) rfl)⟩ (xPreS mE_ok trivial hK hA hP hD hS) rfl rfl hl.1 rfl (lv_room (Nat.le_of_ble_eq_true rfl)) dX1_init_47 ⟨hcl, hsl⟩) hD hS hA (fun u H locs hp hP hD hS => ?_)
        rw [hp, ← sF_0 hlt] at hP hD
        refine va_astq hx hb hK hP hD hS 1 0 (i + 2) 0 rfl rfl (by rw [← cWi_len ax ar ad cO i]; exact get_app _ _) rfl (vp_in_nI hlt (by decide)) dX1_init_50 (fun H locs hP hD hS => ?_)
        rw [nI_clamp (Nat.lt_trans hlt (by decide)), cWi_s] at hP hD
        refine lv_iinc (v := (nI i) + 1) (lv' := [(1, .int ((nI i) + 1)), (0, .ref ax)]) hx hb dX1_init_51 hl (k := 1) rfl rfl (by decide) rfl (fun ls hl => ?_)
        refine lv_goto (tgt := 28) hx hb dX1_init_54 (by decide) ?_
        exact ih (i + 1) (va_up ad i q5) ls _ _ (by omega) (by omega) hP hD hS (by rw [nI_succ]; exact lv_sub hl [1, 0] rfl)
  exact loop 33 0 _ _ _ _ (Nat.zero_le _) (by omega) hP hD hS (lv_sub hl [1, 0] rfl)
