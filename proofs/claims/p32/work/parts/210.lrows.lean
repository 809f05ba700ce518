/-! ===== the law's own cache: nine arrays, read off a state of the class, and the row of the order ===== -/
abbrev LSt : Type := St × (Nat → Int32) × Nat
def nF8 (σ : St) (γ : Nat) : Nat → Int32 := fun j => match j with
  | 0 => gI σ 1
  | 1 => gI σ 3
  | 2 => gI σ 4
  | 3 => nI γ
  | 4 => gI σ 6
  | 5 => gI σ 7
  | 6 => gI σ 11
  | 7 => gI σ 12
  | _ => 0
def qF5 (σ : St) : Nat → Int64 := fun j => match j with
  | 0 => gL σ 2
  | 1 => gL σ 8
  | 2 => gL σ 9
  | 3 => gL σ 10
  | 4 => gL σ 5
  | _ => 0
def wF (σ : St) : Nat → Int64 := fun j => if j < 32 then gT σ 6 j else gT σ 7 (j - 32)
def mF8 (σ : St) : Nat → Int32 := fun j => gS σ 8 j + 1
def kF (σ : St) : Nat → Int32 := fun j => bI (gB σ 2 j)
def lW (be : Nat → Nat) (cI cJ : ClassId) (u : LSt) : va_W :=
  [(be 0, .inl (cI, 32, .inl (uF u.1))), (be 1, .inl (cI, 32, .inl (gS u.1 4))), (be 2, .inl (cI, 32, .inl (gS u.1 5))), (be 3, .inl (cI, 32, .inl (kF u.1))), (be 4, .inl (cI, 32, .inl (mF8 u.1))), (be 5, .inl (cI, 33, .inl u.2.1)), (be 6, .inl (cI, 8, .inl (nF8 u.1 u.2.2))), (be 7, .inl (cJ, 64, .inr (.inl (wF u.1)))), (be 8, .inl (cJ, 5, .inr (.inl (qF5 u.1))))]
def lX (be : Nat → Nat) (cI cJ : ClassId) (wr : va_W) (u : LSt) : va_W := lW be cI cJ u ++ wr
abbrev tX (cI cJ : ClassId) (ty : List (ClassId × FieldType)) : List (ClassId × FieldType) := (cI, .int) :: (cJ, .long) :: ty
theorem P_eq {D : va_G} {w w' : va_W} {H : Heap} (e : w = w') (h : va_P D vwCl w H) : va_P D vwCl w' H := e ▸ h
theorem D_eq {A : Nat → Prop} {w w' : va_W} (e : w = w') (h : va_D A w) : va_D A w' := e ▸ h
theorem gS_up (X : St) (j k : Nat) (v : Int32) (a i : Nat) : gS (uS X j k v) a i = if a = j then (if i = k then v else gS X j i) else gS X a i := by
  by_cases p : a = j
  · by_cases q : i = k
    · simp [gS, uS, va_up, p, q]
    · simp [gS, uS, va_up, p, q]
  · simp [gS, uS, va_up, p]
theorem gB_up (X : St) (j k : Nat) (v : Bool) (a i : Nat) : gB (uB X j k v) a i = if a = j then (if i = k then v else gB X j i) else gB X a i := by
  by_cases p : a = j
  · by_cases q : i = k
    · simp [gB, uB, va_up, p, q]
    · simp [gB, uB, va_up, p, q]
  · simp [gB, uB, va_up, p]
theorem gT_up (X : St) (j k : Nat) (v : Int64) (a i : Nat) : gT (uT X j k v) a i = if a = j then (if i = k then v else gT X j i) else gT X a i := by
  by_cases p : a = j
  · by_cases q : i = k
    · simp [gT, uT, va_up, p, q]
    · simp [gT, uT, va_up, p, q]
  · simp [gT, uT, va_up, p]
theorem SB_i (X : St) (j k : Nat) (v : Bool) (a i : Nat) : gS (uB X j k v) a i = gS X a i := rfl
theorem BS_i (X : St) (j k : Nat) (v : Int32) (a i : Nat) : gB (uS X j k v) a i = gB X a i := rfl
theorem n32 (k : Nat) : (32 : Int32) + nI k = nI (32 + k) := nI_add 32 k
theorem bI_1 {b : Bool} : bI b = 1 ↔ b = true := by cases b <;> decide
/-! ===== what a store makes of the arrays ===== -/
theorem e_set0 (σ : St) (k : Nat) : upd (uF σ) k 0 = uF (uB σ 1 k false) := by
  funext j
  unfold upd uF
  rw [gB_up, SB_i]
  by_cases q : j = k
  · simp [q]
  · simp [q]
theorem e_setv (σ : St) (k : Nat) (v : Int32) : upd (uF σ) k v = uF (uB (uS σ 3 k v) 1 k true) := by
  funext j
  unfold upd uF
  rw [gB_up, SB_i, BS_i, gS_up]
  by_cases q : j = k
  · simp [q]
  · simp [q]
theorem f_set (σ : St) (k : Nat) (v : Int32) : upd (gS σ 4) k v = gS (uS σ 4 k v) 4 := by
  funext j
  rw [gS_up]
  unfold upd
  simp
theorem d_set (σ : St) (k : Nat) (v : Int32) : upd (gS σ 5) k v = gS (uS σ 5 k v) 5 := by
  funext j
  rw [gS_up]
  unfold upd
  simp
theorem k_set (σ : St) (k : Nat) (b : Bool) : upd (kF σ) k (bI b) = kF (uB σ 2 k b) := by
  funext j
  unfold upd kF
  rw [gB_up]
  by_cases q : j = k
  · simp [q]
  · simp [q]
theorem m_set (σ : St) (k : Nat) (v : Int32) : upd (mF8 σ) k (v + 1) = mF8 (uS σ 8 k v) := by
  funext j
  unfold upd mF8
  rw [gS_up]
  by_cases q : j = k
  · simp [q]
  · simp [q]
theorem w_set6 (σ : St) {k : Nat} (hk : k < 32) (v : Int64) : vp_updL (wF σ) k v = wF (uT σ 6 k v) := by
  funext j
  unfold vp_updL wF
  rw [gT_up, gT_up]
  by_cases q : j = k
  · subst q
    simp [hk]
  · simp [q]
theorem w_set7 (σ : St) {k : Nat} (v : Int64) : vp_updL (wF σ) (32 + k) v = wF (uT σ 7 k v) := by
  funext j
  unfold vp_updL wF
  rw [gT_up, gT_up]
  by_cases q : j = 32 + k
  · subst q
    have h1 : ¬ 32 + k < 32 := by omega
    have h2 : 32 + k - 32 = k := by omega
    simp [h1, h2]
  · by_cases h1 : j < 32
    · simp [q, h1]
    · have h2 : ¬ j - 32 = k := by omega
      simp [q, h1, h2]
theorem n_set0 (σ : St) (γ : Nat) (v : Int32) : upd (nF8 σ γ) 0 v = nF8 (uI σ 1 v) γ := by
  funext j
  match j with
  | 0 => rfl
  | 1 => rfl
  | 2 => rfl
  | 3 => rfl
  | 4 => rfl
  | 5 => rfl
  | 6 => rfl
  | 7 => rfl
  | j + 8 => rfl
theorem n_set1 (σ : St) (γ : Nat) (v : Int32) : upd (nF8 σ γ) 1 v = nF8 (uI σ 3 v) γ := by
  funext j
  match j with
  | 0 => rfl
  | 1 => rfl
  | 2 => rfl
  | 3 => rfl
  | 4 => rfl
  | 5 => rfl
  | 6 => rfl
  | 7 => rfl
  | j + 8 => rfl
theorem n_set2 (σ : St) (γ : Nat) (v : Int32) : upd (nF8 σ γ) 2 v = nF8 (uI σ 4 v) γ := by
  funext j
  match j with
  | 0 => rfl
  | 1 => rfl
  | 2 => rfl
  | 3 => rfl
  | 4 => rfl
  | 5 => rfl
  | 6 => rfl
  | 7 => rfl
  | j + 8 => rfl
theorem n_set4 (σ : St) (γ : Nat) (v : Int32) : upd (nF8 σ γ) 4 v = nF8 (uI σ 6 v) γ := by
  funext j
  match j with
  | 0 => rfl
  | 1 => rfl
  | 2 => rfl
  | 3 => rfl
  | 4 => rfl
  | 5 => rfl
  | 6 => rfl
  | 7 => rfl
  | j + 8 => rfl
theorem n_set5 (σ : St) (γ : Nat) (v : Int32) : upd (nF8 σ γ) 5 v = nF8 (uI σ 7 v) γ := by
  funext j
  match j with
  | 0 => rfl
  | 1 => rfl
  | 2 => rfl
  | 3 => rfl
  | 4 => rfl
  | 5 => rfl
  | 6 => rfl
  | 7 => rfl
  | j + 8 => rfl
theorem n_set6 (σ : St) (γ : Nat) (v : Int32) : upd (nF8 σ γ) 6 v = nF8 (uI σ 11 v) γ := by
  funext j
  match j with
  | 0 => rfl
  | 1 => rfl
  | 2 => rfl
  | 3 => rfl
  | 4 => rfl
  | 5 => rfl
  | 6 => rfl
  | 7 => rfl
  | j + 8 => rfl
theorem n_set7 (σ : St) (γ : Nat) (v : Int32) : upd (nF8 σ γ) 7 v = nF8 (uI σ 12 v) γ := by
  funext j
  match j with
  | 0 => rfl
  | 1 => rfl
  | 2 => rfl
  | 3 => rfl
  | 4 => rfl
  | 5 => rfl
  | 6 => rfl
  | 7 => rfl
  | j + 8 => rfl
theorem n_set3 (σ : St) (γ η : Nat) : upd (nF8 σ γ) 3 (nI η) = nF8 σ η := by
  funext j
  match j with
  | 0 => rfl
  | 1 => rfl
  | 2 => rfl
  | 3 => rfl
  | 4 => rfl
  | 5 => rfl
  | 6 => rfl
  | 7 => rfl
  | j + 8 => rfl
theorem q_set0 (σ : St) (v : Int64) : vp_updL (qF5 σ) 0 v = qF5 (uL σ 2 v) := by
  funext j
  match j with
  | 0 => rfl
  | 1 => rfl
  | 2 => rfl
  | 3 => rfl
  | 4 => rfl
  | j + 5 => rfl
theorem q_set1 (σ : St) (v : Int64) : vp_updL (qF5 σ) 1 v = qF5 (uL σ 8 v) := by
  funext j
  match j with
  | 0 => rfl
  | 1 => rfl
  | 2 => rfl
  | 3 => rfl
  | 4 => rfl
  | j + 5 => rfl
theorem q_set2 (σ : St) (v : Int64) : vp_updL (qF5 σ) 2 v = qF5 (uL σ 9 v) := by
  funext j
  match j with
  | 0 => rfl
  | 1 => rfl
  | 2 => rfl
  | 3 => rfl
  | 4 => rfl
  | j + 5 => rfl
theorem q_set3 (σ : St) (v : Int64) : vp_updL (qF5 σ) 3 v = qF5 (uL σ 10 v) := by
  funext j
  match j with
  | 0 => rfl
  | 1 => rfl
  | 2 => rfl
  | 3 => rfl
  | 4 => rfl
  | j + 5 => rfl
theorem q_set4 (σ : St) (v : Int64) : vp_updL (qF5 σ) 4 v = qF5 (uL σ 5 v) := by
  funext j
  match j with
  | 0 => rfl
  | 1 => rfl
  | 2 => rfl
  | 3 => rfl
  | 4 => rfl
  | j + 5 => rfl
section LR
variable {p : Program} {l : Launch} {e : Env} {R : Room} {s : State} {m : MethodId} {args : Array Value} {below : List Frame} {meth : Method} {c : Code} {H : Heap} {locs : List Loc} {cells slots : Nat} {Q : State → Prop}
variable {cc : ByteArray} {pc : Nat} {ls : Array Slot} {rest : List Value} {D : va_G} {A0 : Nat → Prop} {ty : List (ClassId × FieldType)} {σ : St} {ρ : Nat → Int32} {γ : Nat}
variable {be : Nat → Nat} {cI cJ : ClassId} {wr : va_W}
theorem l_ld0 (hx : p.tables.exec = Jvm.exec) (hb : c.code = cc) (hK : va_K D vwCl (tX cI cJ ty) s) (hP : va_P D vwCl (lX be cI cJ wr (σ, ρ, γ)) H) {k : Nat} (hk : k < 32) (hdg : decode cc pc = .ok (.iaload, 1))
    (kk : W p l e R s m args below meth c H locs cells slots Q (F0 m (pc + 1) ls (.int (uF σ k) :: rest))) : W p l e R s m args below meth c H locs cells slots Q (F0 m pc ls (.int (nI k) :: .ref (be 0) :: rest)) := by
  refine va_iald hx hb hK hP 0 0 rfl rfl (vp_in_nI hk (by decide)) hdg ?_
  rw [nI_clamp (Nat.lt_trans hk (by decide))]
  exact kk
theorem l_ld1 (hx : p.tables.exec = Jvm.exec) (hb : c.code = cc) (hK : va_K D vwCl (tX cI cJ ty) s) (hP : va_P D vwCl (lX be cI cJ wr (σ, ρ, γ)) H) {k : Nat} (hk : k < 32) (hdg : decode cc pc = .ok (.iaload, 1))
    (kk : W p l e R s m args below meth c H locs cells slots Q (F0 m (pc + 1) ls (.int (gS σ 4 k) :: rest))) : W p l e R s m args below meth c H locs cells slots Q (F0 m pc ls (.int (nI k) :: .ref (be 1) :: rest)) := by
  refine va_iald hx hb hK hP 1 0 rfl rfl (vp_in_nI hk (by decide)) hdg ?_
  rw [nI_clamp (Nat.lt_trans hk (by decide))]
  exact kk
theorem l_ld2 (hx : p.tables.exec = Jvm.exec) (hb : c.code = cc) (hK : va_K D vwCl (tX cI cJ ty) s) (hP : va_P D vwCl (lX be cI cJ wr (σ, ρ, γ)) H) {k : Nat} (hk : k < 32) (hdg : decode cc pc = .ok (.iaload, 1))
    (kk : W p l e R s m args below meth c H locs cells slots Q (F0 m (pc + 1) ls (.int (gS σ 5 k) :: rest))) : W p l e R s m args below meth c H locs cells slots Q (F0 m pc ls (.int (nI k) :: .ref (be 2) :: rest)) := by
  refine va_iald hx hb hK hP 2 0 rfl rfl (vp_in_nI hk (by decide)) hdg ?_
  rw [nI_clamp (Nat.lt_trans hk (by decide))]
  exact kk
theorem l_ld3 (hx : p.tables.exec = Jvm.exec) (hb : c.code = cc) (hK : va_K D vwCl (tX cI cJ ty) s) (hP : va_P D vwCl (lX be cI cJ wr (σ, ρ, γ)) H) {k : Nat} (hk : k < 32) (hdg : decode cc pc = .ok (.iaload, 1))
    (kk : W p l e R s m args below meth c H locs cells slots Q (F0 m (pc + 1) ls (.int (bI (gB σ 2 k)) :: rest))) : W p l e R s m args below meth c H locs cells slots Q (F0 m pc ls (.int (nI k) :: .ref (be 3) :: rest)) := by
  refine va_iald hx hb hK hP 3 0 rfl rfl (vp_in_nI hk (by decide)) hdg ?_
  rw [nI_clamp (Nat.lt_trans hk (by decide))]
  exact kk
theorem l_ld4 (hx : p.tables.exec = Jvm.exec) (hb : c.code = cc) (hK : va_K D vwCl (tX cI cJ ty) s) (hP : va_P D vwCl (lX be cI cJ wr (σ, ρ, γ)) H) {k : Nat} (hk : k < 32) (hdg : decode cc pc = .ok (.iaload, 1))
    (kk : W p l e R s m args below meth c H locs cells slots Q (F0 m (pc + 1) ls (.int (gS σ 8 k + 1) :: rest))) : W p l e R s m args below meth c H locs cells slots Q (F0 m pc ls (.int (nI k) :: .ref (be 4) :: rest)) := by
  refine va_iald hx hb hK hP 4 0 rfl rfl (vp_in_nI hk (by decide)) hdg ?_
  rw [nI_clamp (Nat.lt_trans hk (by decide))]
  exact kk
theorem l_ld5 (hx : p.tables.exec = Jvm.exec) (hb : c.code = cc) (hK : va_K D vwCl (tX cI cJ ty) s) (hP : va_P D vwCl (lX be cI cJ wr (σ, ρ, γ)) H) {k : Nat} (hk : k < 33) (hdg : decode cc pc = .ok (.iaload, 1))
    (kk : W p l e R s m args below meth c H locs cells slots Q (F0 m (pc + 1) ls (.int (ρ k) :: rest))) : W p l e R s m args below meth c H locs cells slots Q (F0 m pc ls (.int (nI k) :: .ref (be 5) :: rest)) := by
  refine va_iald hx hb hK hP 5 0 rfl rfl (vp_in_nI hk (by decide)) hdg ?_
  rw [nI_clamp (Nat.lt_trans hk (by decide))]
  exact kk
theorem l_ld6 (hx : p.tables.exec = Jvm.exec) (hb : c.code = cc) (hK : va_K D vwCl (tX cI cJ ty) s) (hP : va_P D vwCl (lX be cI cJ wr (σ, ρ, γ)) H) {k : Nat} (hk : k < 8) {v : Int32} (hv : nF8 σ γ k = v) (hdg : decode cc pc = .ok (.iaload, 1))
    (kk : W p l e R s m args below meth c H locs cells slots Q (F0 m (pc + 1) ls (.int (v) :: rest))) : W p l e R s m args below meth c H locs cells slots Q (F0 m pc ls (.int (nI k) :: .ref (be 6) :: rest)) := by
  refine va_iald hx hb hK hP 6 0 rfl rfl (vp_in_nI hk (by decide)) hdg ?_
  rw [nI_clamp (Nat.lt_trans hk (by decide))]
  subst hv
  exact kk
theorem l_ld7 (hx : p.tables.exec = Jvm.exec) (hb : c.code = cc) (hK : va_K D vwCl (tX cI cJ ty) s) (hP : va_P D vwCl (lX be cI cJ wr (σ, ρ, γ)) H) {k : Nat} (hk : k < 32) (hdg : decode cc pc = .ok (.laload, 1))
    (kk : W p l e R s m args below meth c H locs cells slots Q (F0 m (pc + 1) ls (.long (gT σ 6 k) :: rest))) : W p l e R s m args below meth c H locs cells slots Q (F0 m pc ls (.int (nI k) :: .ref (be 7) :: rest)) := by
  refine va_lald hx hb hK hP 7 1 rfl rfl (vp_in_nI (n := k) (N := 64) (by omega) (by decide)) hdg ?_
  rw [nI_clamp (Nat.lt_trans hk (by decide))]
  have e9 : wF σ k = gT σ 6 k := by unfold wF; rw [if_pos hk]
  rw [show wF (σ, ρ, γ).1 k = gT σ 6 k from e9]
  exact kk
theorem l_ld7b (hx : p.tables.exec = Jvm.exec) (hb : c.code = cc) (hK : va_K D vwCl (tX cI cJ ty) s) (hP : va_P D vwCl (lX be cI cJ wr (σ, ρ, γ)) H) {k : Nat} (hk : k < 32) (hdg : decode cc pc = .ok (.laload, 1))
    (kk : W p l e R s m args below meth c H locs cells slots Q (F0 m (pc + 1) ls (.long (gT σ 7 k) :: rest))) : W p l e R s m args below meth c H locs cells slots Q (F0 m pc ls (.int ((32 : Int32) + nI k) :: .ref (be 7) :: rest)) := by
  refine va_lald hx hb hK hP 7 1 rfl rfl (by rw [n32]; exact vp_in_nI (n := 32 + k) (N := 64) (by omega) (by decide)) hdg ?_
  rw [n32, nI_clamp (by omega)]
  have e9 : wF σ (32 + k) = gT σ 7 k := by unfold wF; rw [if_neg (by omega), show 32 + k - 32 = k by omega]
  rw [show wF (σ, ρ, γ).1 (32 + k) = gT σ 7 k from e9]
  exact kk
theorem l_ld8 (hx : p.tables.exec = Jvm.exec) (hb : c.code = cc) (hK : va_K D vwCl (tX cI cJ ty) s) (hP : va_P D vwCl (lX be cI cJ wr (σ, ρ, γ)) H) {k : Nat} (hk : k < 5) {v : Int64} (hv : qF5 σ k = v) (hdg : decode cc pc = .ok (.laload, 1))
    (kk : W p l e R s m args below meth c H locs cells slots Q (F0 m (pc + 1) ls (.long (v) :: rest))) : W p l e R s m args below meth c H locs cells slots Q (F0 m pc ls (.int (nI k) :: .ref (be 8) :: rest)) := by
  refine va_lald hx hb hK hP 8 1 rfl rfl (vp_in_nI hk (by decide)) hdg ?_
  rw [nI_clamp (Nat.lt_trans hk (by decide))]
  subst hv
  exact kk
theorem l_st0ze  {k : Nat} {v : Int32} {η : Nat} {b9 : Bool} : (lX be cI cJ wr (σ, ρ, γ)).set 0 (be 0, .inl (cI, 32, .inl (upd (uF σ) (k) (0)))) = lX be cI cJ wr (uB σ 1 k false, ρ, γ) := by
  rw [e_set0]
  rfl
theorem l_st0z (hx : p.tables.exec = Jvm.exec) (hb : c.code = cc) (hK : va_K D vwCl (tX cI cJ ty) s) (hP : va_P D vwCl (lX be cI cJ wr (σ, ρ, γ)) H) (hD : va_D A0 (lX be cI cJ wr (σ, ρ, γ))) (hS : va_S A0 s.heap H locs) {k : Nat} (hk : k < 32) (hdg : decode cc pc = .ok (.iastore, 1))
    (kk : ∀ (H1 : Heap) (locs1 : List Loc), va_P D vwCl (lX be cI cJ wr (uB σ 1 k false, ρ, γ)) H1 → va_D A0 (lX be cI cJ wr (uB σ 1 k false, ρ, γ)) → va_S A0 s.heap H1 locs1 → W p l e R s m args below meth c H1 locs1 cells slots Q (F0 m (pc + 1) ls rest)) : W p l e R s m args below meth c H locs cells slots Q (F0 m pc ls (.int (0) :: .int (nI k) :: .ref (be 0) :: rest)) := by
  refine va_iast hx hb hK hP hD hS 0 0 rfl rfl (vp_in_nI hk (by decide)) hdg (fun H1 locs1 h1 h2 h3 => ?_)
  rw [nI_clamp (Nat.lt_trans hk (by decide))] at h1 h2
  exact kk H1 locs1 (P_eq (l_st0ze (be := be) (cI := cI) (cJ := cJ) (wr := wr) (σ := σ) (ρ := ρ) (γ := γ) (k := k) (v := 0) (η := 0) (b9 := false)) h1) (D_eq (l_st0ze (be := be) (cI := cI) (cJ := cJ) (wr := wr) (σ := σ) (ρ := ρ) (γ := γ) (k := k) (v := 0) (η := 0) (b9 := false)) h2) h3
theorem l_st0e  {k : Nat} {v : Int32} {η : Nat} {b9 : Bool} : (lX be cI cJ wr (σ, ρ, γ)).set 0 (be 0, .inl (cI, 32, .inl (upd (uF σ) (k) (v)))) = lX be cI cJ wr (uB (uS σ 3 k v) 1 k true, ρ, γ) := by
  rw [e_setv]
  rfl
theorem l_st0 (hx : p.tables.exec = Jvm.exec) (hb : c.code = cc) (hK : va_K D vwCl (tX cI cJ ty) s) (hP : va_P D vwCl (lX be cI cJ wr (σ, ρ, γ)) H) (hD : va_D A0 (lX be cI cJ wr (σ, ρ, γ))) (hS : va_S A0 s.heap H locs) {k : Nat} (hk : k < 32) {v : Int32} (hdg : decode cc pc = .ok (.iastore, 1))
    (kk : ∀ (H1 : Heap) (locs1 : List Loc), va_P D vwCl (lX be cI cJ wr (uB (uS σ 3 k v) 1 k true, ρ, γ)) H1 → va_D A0 (lX be cI cJ wr (uB (uS σ 3 k v) 1 k true, ρ, γ)) → va_S A0 s.heap H1 locs1 → W p l e R s m args below meth c H1 locs1 cells slots Q (F0 m (pc + 1) ls rest)) : W p l e R s m args below meth c H locs cells slots Q (F0 m pc ls (.int (v) :: .int (nI k) :: .ref (be 0) :: rest)) := by
  refine va_iast hx hb hK hP hD hS 0 0 rfl rfl (vp_in_nI hk (by decide)) hdg (fun H1 locs1 h1 h2 h3 => ?_)
  rw [nI_clamp (Nat.lt_trans hk (by decide))] at h1 h2
  exact kk H1 locs1 (P_eq (l_st0e (be := be) (cI := cI) (cJ := cJ) (wr := wr) (σ := σ) (ρ := ρ) (γ := γ) (k := k) (v := v) (η := 0) (b9 := false)) h1) (D_eq (l_st0e (be := be) (cI := cI) (cJ := cJ) (wr := wr) (σ := σ) (ρ := ρ) (γ := γ) (k := k) (v := v) (η := 0) (b9 := false)) h2) h3
theorem l_st1e  {k : Nat} {v : Int32} {η : Nat} {b9 : Bool} : (lX be cI cJ wr (σ, ρ, γ)).set 1 (be 1, .inl (cI, 32, .inl (upd (gS σ 4) (k) (v)))) = lX be cI cJ wr (uS σ 4 k v, ρ, γ) := by
  rw [f_set]
  rfl
theorem l_st1 (hx : p.tables.exec = Jvm.exec) (hb : c.code = cc) (hK : va_K D vwCl (tX cI cJ ty) s) (hP : va_P D vwCl (lX be cI cJ wr (σ, ρ, γ)) H) (hD : va_D A0 (lX be cI cJ wr (σ, ρ, γ))) (hS : va_S A0 s.heap H locs) {k : Nat} (hk : k < 32) {v : Int32} (hdg : decode cc pc = .ok (.iastore, 1))
    (kk : ∀ (H1 : Heap) (locs1 : List Loc), va_P D vwCl (lX be cI cJ wr (uS σ 4 k v, ρ, γ)) H1 → va_D A0 (lX be cI cJ wr (uS σ 4 k v, ρ, γ)) → va_S A0 s.heap H1 locs1 → W p l e R s m args below meth c H1 locs1 cells slots Q (F0 m (pc + 1) ls rest)) : W p l e R s m args below meth c H locs cells slots Q (F0 m pc ls (.int (v) :: .int (nI k) :: .ref (be 1) :: rest)) := by
  refine va_iast hx hb hK hP hD hS 1 0 rfl rfl (vp_in_nI hk (by decide)) hdg (fun H1 locs1 h1 h2 h3 => ?_)
  rw [nI_clamp (Nat.lt_trans hk (by decide))] at h1 h2
  exact kk H1 locs1 (P_eq (l_st1e (be := be) (cI := cI) (cJ := cJ) (wr := wr) (σ := σ) (ρ := ρ) (γ := γ) (k := k) (v := v) (η := 0) (b9 := false)) h1) (D_eq (l_st1e (be := be) (cI := cI) (cJ := cJ) (wr := wr) (σ := σ) (ρ := ρ) (γ := γ) (k := k) (v := v) (η := 0) (b9 := false)) h2) h3
theorem l_st2e  {k : Nat} {v : Int32} {η : Nat} {b9 : Bool} : (lX be cI cJ wr (σ, ρ, γ)).set 2 (be 2, .inl (cI, 32, .inl (upd (gS σ 5) (k) (v)))) = lX be cI cJ wr (uS σ 5 k v, ρ, γ) := by
  rw [d_set]
  rfl
theorem l_st2 (hx : p.tables.exec = Jvm.exec) (hb : c.code = cc) (hK : va_K D vwCl (tX cI cJ ty) s) (hP : va_P D vwCl (lX be cI cJ wr (σ, ρ, γ)) H) (hD : va_D A0 (lX be cI cJ wr (σ, ρ, γ))) (hS : va_S A0 s.heap H locs) {k : Nat} (hk : k < 32) {v : Int32} (hdg : decode cc pc = .ok (.iastore, 1))
    (kk : ∀ (H1 : Heap) (locs1 : List Loc), va_P D vwCl (lX be cI cJ wr (uS σ 5 k v, ρ, γ)) H1 → va_D A0 (lX be cI cJ wr (uS σ 5 k v, ρ, γ)) → va_S A0 s.heap H1 locs1 → W p l e R s m args below meth c H1 locs1 cells slots Q (F0 m (pc + 1) ls rest)) : W p l e R s m args below meth c H locs cells slots Q (F0 m pc ls (.int (v) :: .int (nI k) :: .ref (be 2) :: rest)) := by
  refine va_iast hx hb hK hP hD hS 2 0 rfl rfl (vp_in_nI hk (by decide)) hdg (fun H1 locs1 h1 h2 h3 => ?_)
  rw [nI_clamp (Nat.lt_trans hk (by decide))] at h1 h2
  exact kk H1 locs1 (P_eq (l_st2e (be := be) (cI := cI) (cJ := cJ) (wr := wr) (σ := σ) (ρ := ρ) (γ := γ) (k := k) (v := v) (η := 0) (b9 := false)) h1) (D_eq (l_st2e (be := be) (cI := cI) (cJ := cJ) (wr := wr) (σ := σ) (ρ := ρ) (γ := γ) (k := k) (v := v) (η := 0) (b9 := false)) h2) h3
theorem l_st3e  {k : Nat} {v : Int32} {η : Nat} {b9 : Bool} : (lX be cI cJ wr (σ, ρ, γ)).set 3 (be 3, .inl (cI, 32, .inl (upd (kF σ) (k) (bI b9)))) = lX be cI cJ wr (uB σ 2 k b9, ρ, γ) := by
  rw [k_set]
  rfl
theorem l_st3 (hx : p.tables.exec = Jvm.exec) (hb : c.code = cc) (hK : va_K D vwCl (tX cI cJ ty) s) (hP : va_P D vwCl (lX be cI cJ wr (σ, ρ, γ)) H) (hD : va_D A0 (lX be cI cJ wr (σ, ρ, γ))) (hS : va_S A0 s.heap H locs) {k : Nat} (hk : k < 32) {b9 : Bool} (hdg : decode cc pc = .ok (.iastore, 1))
    (kk : ∀ (H1 : Heap) (locs1 : List Loc), va_P D vwCl (lX be cI cJ wr (uB σ 2 k b9, ρ, γ)) H1 → va_D A0 (lX be cI cJ wr (uB σ 2 k b9, ρ, γ)) → va_S A0 s.heap H1 locs1 → W p l e R s m args below meth c H1 locs1 cells slots Q (F0 m (pc + 1) ls rest)) : W p l e R s m args below meth c H locs cells slots Q (F0 m pc ls (.int (bI b9) :: .int (nI k) :: .ref (be 3) :: rest)) := by
  refine va_iast hx hb hK hP hD hS 3 0 rfl rfl (vp_in_nI hk (by decide)) hdg (fun H1 locs1 h1 h2 h3 => ?_)
  rw [nI_clamp (Nat.lt_trans hk (by decide))] at h1 h2
  exact kk H1 locs1 (P_eq (l_st3e (be := be) (cI := cI) (cJ := cJ) (wr := wr) (σ := σ) (ρ := ρ) (γ := γ) (k := k) (v := 0) (η := 0) (b9 := b9)) h1) (D_eq (l_st3e (be := be) (cI := cI) (cJ := cJ) (wr := wr) (σ := σ) (ρ := ρ) (γ := γ) (k := k) (v := 0) (η := 0) (b9 := b9)) h2) h3
theorem l_st4e  {k : Nat} {v : Int32} {η : Nat} {b9 : Bool} : (lX be cI cJ wr (σ, ρ, γ)).set 4 (be 4, .inl (cI, 32, .inl (upd (mF8 σ) (k) (v + 1)))) = lX be cI cJ wr (uS σ 8 k v, ρ, γ) := by
  rw [m_set]
  rfl
theorem l_st4 (hx : p.tables.exec = Jvm.exec) (hb : c.code = cc) (hK : va_K D vwCl (tX cI cJ ty) s) (hP : va_P D vwCl (lX be cI cJ wr (σ, ρ, γ)) H) (hD : va_D A0 (lX be cI cJ wr (σ, ρ, γ))) (hS : va_S A0 s.heap H locs) {k : Nat} (hk : k < 32) {v : Int32} (hdg : decode cc pc = .ok (.iastore, 1))
    (kk : ∀ (H1 : Heap) (locs1 : List Loc), va_P D vwCl (lX be cI cJ wr (uS σ 8 k v, ρ, γ)) H1 → va_D A0 (lX be cI cJ wr (uS σ 8 k v, ρ, γ)) → va_S A0 s.heap H1 locs1 → W p l e R s m args below meth c H1 locs1 cells slots Q (F0 m (pc + 1) ls rest)) : W p l e R s m args below meth c H locs cells slots Q (F0 m pc ls (.int (v + 1) :: .int (nI k) :: .ref (be 4) :: rest)) := by
  refine va_iast hx hb hK hP hD hS 4 0 rfl rfl (vp_in_nI hk (by decide)) hdg (fun H1 locs1 h1 h2 h3 => ?_)
  rw [nI_clamp (Nat.lt_trans hk (by decide))] at h1 h2
  exact kk H1 locs1 (P_eq (l_st4e (be := be) (cI := cI) (cJ := cJ) (wr := wr) (σ := σ) (ρ := ρ) (γ := γ) (k := k) (v := v) (η := 0) (b9 := false)) h1) (D_eq (l_st4e (be := be) (cI := cI) (cJ := cJ) (wr := wr) (σ := σ) (ρ := ρ) (γ := γ) (k := k) (v := v) (η := 0) (b9 := false)) h2) h3
theorem l_st5e {k : Nat} {v : Int32} {η : Nat} {b9 : Bool} : (lX be cI cJ wr (σ, ρ, γ)).set 5 (be 5, .inl (cI, 33, .inl (upd (ρ) (k) (v)))) = lX be cI cJ wr (σ, upd ρ k v, γ) := rfl
theorem l_st5 (hx : p.tables.exec = Jvm.exec) (hb : c.code = cc) (hK : va_K D vwCl (tX cI cJ ty) s) (hP : va_P D vwCl (lX be cI cJ wr (σ, ρ, γ)) H) (hD : va_D A0 (lX be cI cJ wr (σ, ρ, γ))) (hS : va_S A0 s.heap H locs) {k : Nat} (hk : k < 33) {v : Int32} (hdg : decode cc pc = .ok (.iastore, 1))
    (kk : ∀ (H1 : Heap) (locs1 : List Loc), va_P D vwCl (lX be cI cJ wr (σ, upd ρ k v, γ)) H1 → va_D A0 (lX be cI cJ wr (σ, upd ρ k v, γ)) → va_S A0 s.heap H1 locs1 → W p l e R s m args below meth c H1 locs1 cells slots Q (F0 m (pc + 1) ls rest)) : W p l e R s m args below meth c H locs cells slots Q (F0 m pc ls (.int (v) :: .int (nI k) :: .ref (be 5) :: rest)) := by
  refine va_iast hx hb hK hP hD hS 5 0 rfl rfl (vp_in_nI hk (by decide)) hdg (fun H1 locs1 h1 h2 h3 => ?_)
  rw [nI_clamp (Nat.lt_trans hk (by decide))] at h1 h2
  exact kk H1 locs1 (P_eq (l_st5e (be := be) (cI := cI) (cJ := cJ) (wr := wr) (σ := σ) (ρ := ρ) (γ := γ) (k := k) (v := v) (η := 0) (b9 := false)) h1) (D_eq (l_st5e (be := be) (cI := cI) (cJ := cJ) (wr := wr) (σ := σ) (ρ := ρ) (γ := γ) (k := k) (v := v) (η := 0) (b9 := false)) h2) h3
theorem l_st6_0e  {k : Nat} {v : Int32} {η : Nat} {b9 : Bool} : (lX be cI cJ wr (σ, ρ, γ)).set 6 (be 6, .inl (cI, 8, .inl (upd (nF8 σ γ) (0) (v)))) = lX be cI cJ wr (uI σ 1 v, ρ, γ) := by
  rw [n_set0]
  rfl
theorem l_st6_0 (hx : p.tables.exec = Jvm.exec) (hb : c.code = cc) (hK : va_K D vwCl (tX cI cJ ty) s) (hP : va_P D vwCl (lX be cI cJ wr (σ, ρ, γ)) H) (hD : va_D A0 (lX be cI cJ wr (σ, ρ, γ))) (hS : va_S A0 s.heap H locs) {v : Int32} (hdg : decode cc pc = .ok (.iastore, 1))
    (kk : ∀ (H1 : Heap) (locs1 : List Loc), va_P D vwCl (lX be cI cJ wr (uI σ 1 v, ρ, γ)) H1 → va_D A0 (lX be cI cJ wr (uI σ 1 v, ρ, γ)) → va_S A0 s.heap H1 locs1 → W p l e R s m args below meth c H1 locs1 cells slots Q (F0 m (pc + 1) ls rest)) : W p l e R s m args below meth c H locs cells slots Q (F0 m pc ls (.int (v) :: .int (0) :: .ref (be 6) :: rest)) := by
  refine va_iast hx hb hK hP hD hS 6 0 rfl rfl (vp_in_nI (n := 0) (N := 8) (by decide) (by decide)) hdg (fun H1 locs1 h1 h2 h3 => ?_)
  rw [(by decide : (0 : Int32).toNatClampNeg = 0)] at h1 h2
  exact kk H1 locs1 (P_eq (l_st6_0e (be := be) (cI := cI) (cJ := cJ) (wr := wr) (σ := σ) (ρ := ρ) (γ := γ) (k := 0) (v := v) (η := 0) (b9 := false)) h1) (D_eq (l_st6_0e (be := be) (cI := cI) (cJ := cJ) (wr := wr) (σ := σ) (ρ := ρ) (γ := γ) (k := 0) (v := v) (η := 0) (b9 := false)) h2) h3
theorem l_st6_1e  {k : Nat} {v : Int32} {η : Nat} {b9 : Bool} : (lX be cI cJ wr (σ, ρ, γ)).set 6 (be 6, .inl (cI, 8, .inl (upd (nF8 σ γ) (1) (v)))) = lX be cI cJ wr (uI σ 3 v, ρ, γ) := by
  rw [n_set1]
  rfl
theorem l_st6_1 (hx : p.tables.exec = Jvm.exec) (hb : c.code = cc) (hK : va_K D vwCl (tX cI cJ ty) s) (hP : va_P D vwCl (lX be cI cJ wr (σ, ρ, γ)) H) (hD : va_D A0 (lX be cI cJ wr (σ, ρ, γ))) (hS : va_S A0 s.heap H locs) {v : Int32} (hdg : decode cc pc = .ok (.iastore, 1))
    (kk : ∀ (H1 : Heap) (locs1 : List Loc), va_P D vwCl (lX be cI cJ wr (uI σ 3 v, ρ, γ)) H1 → va_D A0 (lX be cI cJ wr (uI σ 3 v, ρ, γ)) → va_S A0 s.heap H1 locs1 → W p l e R s m args below meth c H1 locs1 cells slots Q (F0 m (pc + 1) ls rest)) : W p l e R s m args below meth c H locs cells slots Q (F0 m pc ls (.int (v) :: .int (1) :: .ref (be 6) :: rest)) := by
  refine va_iast hx hb hK hP hD hS 6 0 rfl rfl (vp_in_nI (n := 1) (N := 8) (by decide) (by decide)) hdg (fun H1 locs1 h1 h2 h3 => ?_)
  rw [(by decide : (1 : Int32).toNatClampNeg = 1)] at h1 h2
  exact kk H1 locs1 (P_eq (l_st6_1e (be := be) (cI := cI) (cJ := cJ) (wr := wr) (σ := σ) (ρ := ρ) (γ := γ) (k := 0) (v := v) (η := 0) (b9 := false)) h1) (D_eq (l_st6_1e (be := be) (cI := cI) (cJ := cJ) (wr := wr) (σ := σ) (ρ := ρ) (γ := γ) (k := 0) (v := v) (η := 0) (b9 := false)) h2) h3
theorem l_st6_2e  {k : Nat} {v : Int32} {η : Nat} {b9 : Bool} : (lX be cI cJ wr (σ, ρ, γ)).set 6 (be 6, .inl (cI, 8, .inl (upd (nF8 σ γ) (2) (v)))) = lX be cI cJ wr (uI σ 4 v, ρ, γ) := by
  rw [n_set2]
  rfl
theorem l_st6_2 (hx : p.tables.exec = Jvm.exec) (hb : c.code = cc) (hK : va_K D vwCl (tX cI cJ ty) s) (hP : va_P D vwCl (lX be cI cJ wr (σ, ρ, γ)) H) (hD : va_D A0 (lX be cI cJ wr (σ, ρ, γ))) (hS : va_S A0 s.heap H locs) {v : Int32} (hdg : decode cc pc = .ok (.iastore, 1))
    (kk : ∀ (H1 : Heap) (locs1 : List Loc), va_P D vwCl (lX be cI cJ wr (uI σ 4 v, ρ, γ)) H1 → va_D A0 (lX be cI cJ wr (uI σ 4 v, ρ, γ)) → va_S A0 s.heap H1 locs1 → W p l e R s m args below meth c H1 locs1 cells slots Q (F0 m (pc + 1) ls rest)) : W p l e R s m args below meth c H locs cells slots Q (F0 m pc ls (.int (v) :: .int (2) :: .ref (be 6) :: rest)) := by
  refine va_iast hx hb hK hP hD hS 6 0 rfl rfl (vp_in_nI (n := 2) (N := 8) (by decide) (by decide)) hdg (fun H1 locs1 h1 h2 h3 => ?_)
  rw [(by decide : (2 : Int32).toNatClampNeg = 2)] at h1 h2
  exact kk H1 locs1 (P_eq (l_st6_2e (be := be) (cI := cI) (cJ := cJ) (wr := wr) (σ := σ) (ρ := ρ) (γ := γ) (k := 0) (v := v) (η := 0) (b9 := false)) h1) (D_eq (l_st6_2e (be := be) (cI := cI) (cJ := cJ) (wr := wr) (σ := σ) (ρ := ρ) (γ := γ) (k := 0) (v := v) (η := 0) (b9 := false)) h2) h3
theorem l_st6_4e  {k : Nat} {v : Int32} {η : Nat} {b9 : Bool} : (lX be cI cJ wr (σ, ρ, γ)).set 6 (be 6, .inl (cI, 8, .inl (upd (nF8 σ γ) (4) (v)))) = lX be cI cJ wr (uI σ 6 v, ρ, γ) := by
  rw [n_set4]
  rfl
theorem l_st6_4 (hx : p.tables.exec = Jvm.exec) (hb : c.code = cc) (hK : va_K D vwCl (tX cI cJ ty) s) (hP : va_P D vwCl (lX be cI cJ wr (σ, ρ, γ)) H) (hD : va_D A0 (lX be cI cJ wr (σ, ρ, γ))) (hS : va_S A0 s.heap H locs) {v : Int32} (hdg : decode cc pc = .ok (.iastore, 1))
    (kk : ∀ (H1 : Heap) (locs1 : List Loc), va_P D vwCl (lX be cI cJ wr (uI σ 6 v, ρ, γ)) H1 → va_D A0 (lX be cI cJ wr (uI σ 6 v, ρ, γ)) → va_S A0 s.heap H1 locs1 → W p l e R s m args below meth c H1 locs1 cells slots Q (F0 m (pc + 1) ls rest)) : W p l e R s m args below meth c H locs cells slots Q (F0 m pc ls (.int (v) :: .int (4) :: .ref (be 6) :: rest)) := by
  refine va_iast hx hb hK hP hD hS 6 0 rfl rfl (vp_in_nI (n := 4) (N := 8) (by decide) (by decide)) hdg (fun H1 locs1 h1 h2 h3 => ?_)
  rw [(by decide : (4 : Int32).toNatClampNeg = 4)] at h1 h2
  exact kk H1 locs1 (P_eq (l_st6_4e (be := be) (cI := cI) (cJ := cJ) (wr := wr) (σ := σ) (ρ := ρ) (γ := γ) (k := 0) (v := v) (η := 0) (b9 := false)) h1) (D_eq (l_st6_4e (be := be) (cI := cI) (cJ := cJ) (wr := wr) (σ := σ) (ρ := ρ) (γ := γ) (k := 0) (v := v) (η := 0) (b9 := false)) h2) h3
theorem l_st6_5e  {k : Nat} {v : Int32} {η : Nat} {b9 : Bool} : (lX be cI cJ wr (σ, ρ, γ)).set 6 (be 6, .inl (cI, 8, .inl (upd (nF8 σ γ) (5) (v)))) = lX be cI cJ wr (uI σ 7 v, ρ, γ) := by
  rw [n_set5]
  rfl
theorem l_st6_5 (hx : p.tables.exec = Jvm.exec) (hb : c.code = cc) (hK : va_K D vwCl (tX cI cJ ty) s) (hP : va_P D vwCl (lX be cI cJ wr (σ, ρ, γ)) H) (hD : va_D A0 (lX be cI cJ wr (σ, ρ, γ))) (hS : va_S A0 s.heap H locs) {v : Int32} (hdg : decode cc pc = .ok (.iastore, 1))
    (kk : ∀ (H1 : Heap) (locs1 : List Loc), va_P D vwCl (lX be cI cJ wr (uI σ 7 v, ρ, γ)) H1 → va_D A0 (lX be cI cJ wr (uI σ 7 v, ρ, γ)) → va_S A0 s.heap H1 locs1 → W p l e R s m args below meth c H1 locs1 cells slots Q (F0 m (pc + 1) ls rest)) : W p l e R s m args below meth c H locs cells slots Q (F0 m pc ls (.int (v) :: .int (5) :: .ref (be 6) :: rest)) := by
  refine va_iast hx hb hK hP hD hS 6 0 rfl rfl (vp_in_nI (n := 5) (N := 8) (by decide) (by decide)) hdg (fun H1 locs1 h1 h2 h3 => ?_)
  rw [(by decide : (5 : Int32).toNatClampNeg = 5)] at h1 h2
  exact kk H1 locs1 (P_eq (l_st6_5e (be := be) (cI := cI) (cJ := cJ) (wr := wr) (σ := σ) (ρ := ρ) (γ := γ) (k := 0) (v := v) (η := 0) (b9 := false)) h1) (D_eq (l_st6_5e (be := be) (cI := cI) (cJ := cJ) (wr := wr) (σ := σ) (ρ := ρ) (γ := γ) (k := 0) (v := v) (η := 0) (b9 := false)) h2) h3
theorem l_st6_6e  {k : Nat} {v : Int32} {η : Nat} {b9 : Bool} : (lX be cI cJ wr (σ, ρ, γ)).set 6 (be 6, .inl (cI, 8, .inl (upd (nF8 σ γ) (6) (v)))) = lX be cI cJ wr (uI σ 11 v, ρ, γ) := by
  rw [n_set6]
  rfl
theorem l_st6_6 (hx : p.tables.exec = Jvm.exec) (hb : c.code = cc) (hK : va_K D vwCl (tX cI cJ ty) s) (hP : va_P D vwCl (lX be cI cJ wr (σ, ρ, γ)) H) (hD : va_D A0 (lX be cI cJ wr (σ, ρ, γ))) (hS : va_S A0 s.heap H locs) {v : Int32} (hdg : decode cc pc = .ok (.iastore, 1))
    (kk : ∀ (H1 : Heap) (locs1 : List Loc), va_P D vwCl (lX be cI cJ wr (uI σ 11 v, ρ, γ)) H1 → va_D A0 (lX be cI cJ wr (uI σ 11 v, ρ, γ)) → va_S A0 s.heap H1 locs1 → W p l e R s m args below meth c H1 locs1 cells slots Q (F0 m (pc + 1) ls rest)) : W p l e R s m args below meth c H locs cells slots Q (F0 m pc ls (.int (v) :: .int (6) :: .ref (be 6) :: rest)) := by
  refine va_iast hx hb hK hP hD hS 6 0 rfl rfl (vp_in_nI (n := 6) (N := 8) (by decide) (by decide)) hdg (fun H1 locs1 h1 h2 h3 => ?_)
  rw [(by decide : (6 : Int32).toNatClampNeg = 6)] at h1 h2
  exact kk H1 locs1 (P_eq (l_st6_6e (be := be) (cI := cI) (cJ := cJ) (wr := wr) (σ := σ) (ρ := ρ) (γ := γ) (k := 0) (v := v) (η := 0) (b9 := false)) h1) (D_eq (l_st6_6e (be := be) (cI := cI) (cJ := cJ) (wr := wr) (σ := σ) (ρ := ρ) (γ := γ) (k := 0) (v := v) (η := 0) (b9 := false)) h2) h3
theorem l_st6_7e  {k : Nat} {v : Int32} {η : Nat} {b9 : Bool} : (lX be cI cJ wr (σ, ρ, γ)).set 6 (be 6, .inl (cI, 8, .inl (upd (nF8 σ γ) (7) (v)))) = lX be cI cJ wr (uI σ 12 v, ρ, γ) := by
  rw [n_set7]
  rfl
theorem l_st6_7 (hx : p.tables.exec = Jvm.exec) (hb : c.code = cc) (hK : va_K D vwCl (tX cI cJ ty) s) (hP : va_P D vwCl (lX be cI cJ wr (σ, ρ, γ)) H) (hD : va_D A0 (lX be cI cJ wr (σ, ρ, γ))) (hS : va_S A0 s.heap H locs) {v : Int32} (hdg : decode cc pc = .ok (.iastore, 1))
    (kk : ∀ (H1 : Heap) (locs1 : List Loc), va_P D vwCl (lX be cI cJ wr (uI σ 12 v, ρ, γ)) H1 → va_D A0 (lX be cI cJ wr (uI σ 12 v, ρ, γ)) → va_S A0 s.heap H1 locs1 → W p l e R s m args below meth c H1 locs1 cells slots Q (F0 m (pc + 1) ls rest)) : W p l e R s m args below meth c H locs cells slots Q (F0 m pc ls (.int (v) :: .int (7) :: .ref (be 6) :: rest)) := by
  refine va_iast hx hb hK hP hD hS 6 0 rfl rfl (vp_in_nI (n := 7) (N := 8) (by decide) (by decide)) hdg (fun H1 locs1 h1 h2 h3 => ?_)
  rw [(by decide : (7 : Int32).toNatClampNeg = 7)] at h1 h2
  exact kk H1 locs1 (P_eq (l_st6_7e (be := be) (cI := cI) (cJ := cJ) (wr := wr) (σ := σ) (ρ := ρ) (γ := γ) (k := 0) (v := v) (η := 0) (b9 := false)) h1) (D_eq (l_st6_7e (be := be) (cI := cI) (cJ := cJ) (wr := wr) (σ := σ) (ρ := ρ) (γ := γ) (k := 0) (v := v) (η := 0) (b9 := false)) h2) h3
theorem l_st6_3e  {k : Nat} {v : Int32} {η : Nat} {b9 : Bool} : (lX be cI cJ wr (σ, ρ, γ)).set 6 (be 6, .inl (cI, 8, .inl (upd (nF8 σ γ) (3) (nI η)))) = lX be cI cJ wr (σ, ρ, η) := by
  rw [n_set3]
  rfl
theorem l_st6_3 (hx : p.tables.exec = Jvm.exec) (hb : c.code = cc) (hK : va_K D vwCl (tX cI cJ ty) s) (hP : va_P D vwCl (lX be cI cJ wr (σ, ρ, γ)) H) (hD : va_D A0 (lX be cI cJ wr (σ, ρ, γ))) (hS : va_S A0 s.heap H locs) {η : Nat} (hdg : decode cc pc = .ok (.iastore, 1))
    (kk : ∀ (H1 : Heap) (locs1 : List Loc), va_P D vwCl (lX be cI cJ wr (σ, ρ, η)) H1 → va_D A0 (lX be cI cJ wr (σ, ρ, η)) → va_S A0 s.heap H1 locs1 → W p l e R s m args below meth c H1 locs1 cells slots Q (F0 m (pc + 1) ls rest)) : W p l e R s m args below meth c H locs cells slots Q (F0 m pc ls (.int (nI η) :: .int (3) :: .ref (be 6) :: rest)) := by
  refine va_iast hx hb hK hP hD hS 6 0 rfl rfl (vp_in_nI (n := 3) (N := 8) (by decide) (by decide)) hdg (fun H1 locs1 h1 h2 h3 => ?_)
  rw [(by decide : (3 : Int32).toNatClampNeg = 3)] at h1 h2
  exact kk H1 locs1 (P_eq (l_st6_3e (be := be) (cI := cI) (cJ := cJ) (wr := wr) (σ := σ) (ρ := ρ) (γ := γ) (k := 0) (v := 0) (η := η) (b9 := false)) h1) (D_eq (l_st6_3e (be := be) (cI := cI) (cJ := cJ) (wr := wr) (σ := σ) (ρ := ρ) (γ := γ) (k := 0) (v := 0) (η := η) (b9 := false)) h2) h3
theorem l_st7e {k : Nat} (hk : k < 32) {v : Int64} {η : Nat} {b9 : Bool} : (lX be cI cJ wr (σ, ρ, γ)).set 7 (be 7, .inl (cJ, 64, .inr (.inl (vp_updL (wF σ) (k) (v))))) = lX be cI cJ wr (uT σ 6 k v, ρ, γ) := by
  rw [w_set6 σ hk]
  rfl
theorem l_st7 (hx : p.tables.exec = Jvm.exec) (hb : c.code = cc) (hK : va_K D vwCl (tX cI cJ ty) s) (hP : va_P D vwCl (lX be cI cJ wr (σ, ρ, γ)) H) (hD : va_D A0 (lX be cI cJ wr (σ, ρ, γ))) (hS : va_S A0 s.heap H locs) {k : Nat} (hk : k < 32) {v : Int64} (hdg : decode cc pc = .ok (.lastore, 1))
    (kk : ∀ (H1 : Heap) (locs1 : List Loc), va_P D vwCl (lX be cI cJ wr (uT σ 6 k v, ρ, γ)) H1 → va_D A0 (lX be cI cJ wr (uT σ 6 k v, ρ, γ)) → va_S A0 s.heap H1 locs1 → W p l e R s m args below meth c H1 locs1 cells slots Q (F0 m (pc + 1) ls rest)) : W p l e R s m args below meth c H locs cells slots Q (F0 m pc ls (.long (v) :: .int (nI k) :: .ref (be 7) :: rest)) := by
  refine va_last hx hb hK hP hD hS 7 1 rfl rfl (vp_in_nI (n := k) (N := 64) (by omega) (by decide)) hdg (fun H1 locs1 h1 h2 h3 => ?_)
  rw [nI_clamp (Nat.lt_trans hk (by decide))] at h1 h2
  exact kk H1 locs1 (P_eq (l_st7e (be := be) (cI := cI) (cJ := cJ) (wr := wr) (σ := σ) (ρ := ρ) (γ := γ) hk (v := v) (η := 0) (b9 := false)) h1) (D_eq (l_st7e (be := be) (cI := cI) (cJ := cJ) (wr := wr) (σ := σ) (ρ := ρ) (γ := γ) hk (v := v) (η := 0) (b9 := false)) h2) h3
theorem l_st7be  {k : Nat} {v : Int64} {η : Nat} {b9 : Bool} : (lX be cI cJ wr (σ, ρ, γ)).set 7 (be 7, .inl (cJ, 64, .inr (.inl (vp_updL (wF σ) (32 + k) (v))))) = lX be cI cJ wr (uT σ 7 k v, ρ, γ) := by
  rw [w_set7]
  rfl
theorem l_st7b (hx : p.tables.exec = Jvm.exec) (hb : c.code = cc) (hK : va_K D vwCl (tX cI cJ ty) s) (hP : va_P D vwCl (lX be cI cJ wr (σ, ρ, γ)) H) (hD : va_D A0 (lX be cI cJ wr (σ, ρ, γ))) (hS : va_S A0 s.heap H locs) {k : Nat} (hk : k < 32) {v : Int64} (hdg : decode cc pc = .ok (.lastore, 1))
    (kk : ∀ (H1 : Heap) (locs1 : List Loc), va_P D vwCl (lX be cI cJ wr (uT σ 7 k v, ρ, γ)) H1 → va_D A0 (lX be cI cJ wr (uT σ 7 k v, ρ, γ)) → va_S A0 s.heap H1 locs1 → W p l e R s m args below meth c H1 locs1 cells slots Q (F0 m (pc + 1) ls rest)) : W p l e R s m args below meth c H locs cells slots Q (F0 m pc ls (.long (v) :: .int ((32 : Int32) + nI k) :: .ref (be 7) :: rest)) := by
  refine va_last hx hb hK hP hD hS 7 1 rfl rfl (by rw [n32]; exact vp_in_nI (n := 32 + k) (N := 64) (by omega) (by decide)) hdg (fun H1 locs1 h1 h2 h3 => ?_)
  rw [n32, nI_clamp (n := 32 + k) (by omega)] at h1 h2
  exact kk H1 locs1 (P_eq (l_st7be (be := be) (cI := cI) (cJ := cJ) (wr := wr) (σ := σ) (ρ := ρ) (γ := γ) (k := k) (v := v) (η := 0) (b9 := false)) h1) (D_eq (l_st7be (be := be) (cI := cI) (cJ := cJ) (wr := wr) (σ := σ) (ρ := ρ) (γ := γ) (k := k) (v := v) (η := 0) (b9 := false)) h2) h3
theorem l_st8_0e  {k : Nat} {v : Int64} {η : Nat} {b9 : Bool} : (lX be cI cJ wr (σ, ρ, γ)).set 8 (be 8, .inl (cJ, 5, .inr (.inl (vp_updL (qF5 σ) (0) (v))))) = lX be cI cJ wr (uL σ 2 v, ρ, γ) := by
  rw [q_set0]
  rfl
theorem l_st8_0 (hx : p.tables.exec = Jvm.exec) (hb : c.code = cc) (hK : va_K D vwCl (tX cI cJ ty) s) (hP : va_P D vwCl (lX be cI cJ wr (σ, ρ, γ)) H) (hD : va_D A0 (lX be cI cJ wr (σ, ρ, γ))) (hS : va_S A0 s.heap H locs) {v : Int64} (hdg : decode cc pc = .ok (.lastore, 1))
    (kk : ∀ (H1 : Heap) (locs1 : List Loc), va_P D vwCl (lX be cI cJ wr (uL σ 2 v, ρ, γ)) H1 → va_D A0 (lX be cI cJ wr (uL σ 2 v, ρ, γ)) → va_S A0 s.heap H1 locs1 → W p l e R s m args below meth c H1 locs1 cells slots Q (F0 m (pc + 1) ls rest)) : W p l e R s m args below meth c H locs cells slots Q (F0 m pc ls (.long (v) :: .int (0) :: .ref (be 8) :: rest)) := by
  refine va_last hx hb hK hP hD hS 8 1 rfl rfl (vp_in_nI (n := 0) (N := 5) (by decide) (by decide)) hdg (fun H1 locs1 h1 h2 h3 => ?_)
  rw [(by decide : (0 : Int32).toNatClampNeg = 0)] at h1 h2
  exact kk H1 locs1 (P_eq (l_st8_0e (be := be) (cI := cI) (cJ := cJ) (wr := wr) (σ := σ) (ρ := ρ) (γ := γ) (k := 0) (v := v) (η := 0) (b9 := false)) h1) (D_eq (l_st8_0e (be := be) (cI := cI) (cJ := cJ) (wr := wr) (σ := σ) (ρ := ρ) (γ := γ) (k := 0) (v := v) (η := 0) (b9 := false)) h2) h3
theorem l_st8_1e  {k : Nat} {v : Int64} {η : Nat} {b9 : Bool} : (lX be cI cJ wr (σ, ρ, γ)).set 8 (be 8, .inl (cJ, 5, .inr (.inl (vp_updL (qF5 σ) (1) (v))))) = lX be cI cJ wr (uL σ 8 v, ρ, γ) := by
  rw [q_set1]
  rfl
theorem l_st8_1 (hx : p.tables.exec = Jvm.exec) (hb : c.code = cc) (hK : va_K D vwCl (tX cI cJ ty) s) (hP : va_P D vwCl (lX be cI cJ wr (σ, ρ, γ)) H) (hD : va_D A0 (lX be cI cJ wr (σ, ρ, γ))) (hS : va_S A0 s.heap H locs) {v : Int64} (hdg : decode cc pc = .ok (.lastore, 1))
    (kk : ∀ (H1 : Heap) (locs1 : List Loc), va_P D vwCl (lX be cI cJ wr (uL σ 8 v, ρ, γ)) H1 → va_D A0 (lX be cI cJ wr (uL σ 8 v, ρ, γ)) → va_S A0 s.heap H1 locs1 → W p l e R s m args below meth c H1 locs1 cells slots Q (F0 m (pc + 1) ls rest)) : W p l e R s m args below meth c H locs cells slots Q (F0 m pc ls (.long (v) :: .int (1) :: .ref (be 8) :: rest)) := by
  refine va_last hx hb hK hP hD hS 8 1 rfl rfl (vp_in_nI (n := 1) (N := 5) (by decide) (by decide)) hdg (fun H1 locs1 h1 h2 h3 => ?_)
  rw [(by decide : (1 : Int32).toNatClampNeg = 1)] at h1 h2
  exact kk H1 locs1 (P_eq (l_st8_1e (be := be) (cI := cI) (cJ := cJ) (wr := wr) (σ := σ) (ρ := ρ) (γ := γ) (k := 0) (v := v) (η := 0) (b9 := false)) h1) (D_eq (l_st8_1e (be := be) (cI := cI) (cJ := cJ) (wr := wr) (σ := σ) (ρ := ρ) (γ := γ) (k := 0) (v := v) (η := 0) (b9 := false)) h2) h3
theorem l_st8_2e  {k : Nat} {v : Int64} {η : Nat} {b9 : Bool} : (lX be cI cJ wr (σ, ρ, γ)).set 8 (be 8, .inl (cJ, 5, .inr (.inl (vp_updL (qF5 σ) (2) (v))))) = lX be cI cJ wr (uL σ 9 v, ρ, γ) := by
  rw [q_set2]
  rfl
theorem l_st8_2 (hx : p.tables.exec = Jvm.exec) (hb : c.code = cc) (hK : va_K D vwCl (tX cI cJ ty) s) (hP : va_P D vwCl (lX be cI cJ wr (σ, ρ, γ)) H) (hD : va_D A0 (lX be cI cJ wr (σ, ρ, γ))) (hS : va_S A0 s.heap H locs) {v : Int64} (hdg : decode cc pc = .ok (.lastore, 1))
    (kk : ∀ (H1 : Heap) (locs1 : List Loc), va_P D vwCl (lX be cI cJ wr (uL σ 9 v, ρ, γ)) H1 → va_D A0 (lX be cI cJ wr (uL σ 9 v, ρ, γ)) → va_S A0 s.heap H1 locs1 → W p l e R s m args below meth c H1 locs1 cells slots Q (F0 m (pc + 1) ls rest)) : W p l e R s m args below meth c H locs cells slots Q (F0 m pc ls (.long (v) :: .int (2) :: .ref (be 8) :: rest)) := by
  refine va_last hx hb hK hP hD hS 8 1 rfl rfl (vp_in_nI (n := 2) (N := 5) (by decide) (by decide)) hdg (fun H1 locs1 h1 h2 h3 => ?_)
  rw [(by decide : (2 : Int32).toNatClampNeg = 2)] at h1 h2
  exact kk H1 locs1 (P_eq (l_st8_2e (be := be) (cI := cI) (cJ := cJ) (wr := wr) (σ := σ) (ρ := ρ) (γ := γ) (k := 0) (v := v) (η := 0) (b9 := false)) h1) (D_eq (l_st8_2e (be := be) (cI := cI) (cJ := cJ) (wr := wr) (σ := σ) (ρ := ρ) (γ := γ) (k := 0) (v := v) (η := 0) (b9 := false)) h2) h3
theorem l_st8_3e  {k : Nat} {v : Int64} {η : Nat} {b9 : Bool} : (lX be cI cJ wr (σ, ρ, γ)).set 8 (be 8, .inl (cJ, 5, .inr (.inl (vp_updL (qF5 σ) (3) (v))))) = lX be cI cJ wr (uL σ 10 v, ρ, γ) := by
  rw [q_set3]
  rfl
theorem l_st8_3 (hx : p.tables.exec = Jvm.exec) (hb : c.code = cc) (hK : va_K D vwCl (tX cI cJ ty) s) (hP : va_P D vwCl (lX be cI cJ wr (σ, ρ, γ)) H) (hD : va_D A0 (lX be cI cJ wr (σ, ρ, γ))) (hS : va_S A0 s.heap H locs) {v : Int64} (hdg : decode cc pc = .ok (.lastore, 1))
    (kk : ∀ (H1 : Heap) (locs1 : List Loc), va_P D vwCl (lX be cI cJ wr (uL σ 10 v, ρ, γ)) H1 → va_D A0 (lX be cI cJ wr (uL σ 10 v, ρ, γ)) → va_S A0 s.heap H1 locs1 → W p l e R s m args below meth c H1 locs1 cells slots Q (F0 m (pc + 1) ls rest)) : W p l e R s m args below meth c H locs cells slots Q (F0 m pc ls (.long (v) :: .int (3) :: .ref (be 8) :: rest)) := by
  refine va_last hx hb hK hP hD hS 8 1 rfl rfl (vp_in_nI (n := 3) (N := 5) (by decide) (by decide)) hdg (fun H1 locs1 h1 h2 h3 => ?_)
  rw [(by decide : (3 : Int32).toNatClampNeg = 3)] at h1 h2
  exact kk H1 locs1 (P_eq (l_st8_3e (be := be) (cI := cI) (cJ := cJ) (wr := wr) (σ := σ) (ρ := ρ) (γ := γ) (k := 0) (v := v) (η := 0) (b9 := false)) h1) (D_eq (l_st8_3e (be := be) (cI := cI) (cJ := cJ) (wr := wr) (σ := σ) (ρ := ρ) (γ := γ) (k := 0) (v := v) (η := 0) (b9 := false)) h2) h3
theorem l_st8_4e  {k : Nat} {v : Int64} {η : Nat} {b9 : Bool} : (lX be cI cJ wr (σ, ρ, γ)).set 8 (be 8, .inl (cJ, 5, .inr (.inl (vp_updL (qF5 σ) (4) (v))))) = lX be cI cJ wr (uL σ 5 v, ρ, γ) := by
  rw [q_set4]
  rfl
theorem l_st8_4 (hx : p.tables.exec = Jvm.exec) (hb : c.code = cc) (hK : va_K D vwCl (tX cI cJ ty) s) (hP : va_P D vwCl (lX be cI cJ wr (σ, ρ, γ)) H) (hD : va_D A0 (lX be cI cJ wr (σ, ρ, γ))) (hS : va_S A0 s.heap H locs) {v : Int64} (hdg : decode cc pc = .ok (.lastore, 1))
    (kk : ∀ (H1 : Heap) (locs1 : List Loc), va_P D vwCl (lX be cI cJ wr (uL σ 5 v, ρ, γ)) H1 → va_D A0 (lX be cI cJ wr (uL σ 5 v, ρ, γ)) → va_S A0 s.heap H1 locs1 → W p l e R s m args below meth c H1 locs1 cells slots Q (F0 m (pc + 1) ls rest)) : W p l e R s m args below meth c H locs cells slots Q (F0 m pc ls (.long (v) :: .int (4) :: .ref (be 8) :: rest)) := by
  refine va_last hx hb hK hP hD hS 8 1 rfl rfl (vp_in_nI (n := 4) (N := 5) (by decide) (by decide)) hdg (fun H1 locs1 h1 h2 h3 => ?_)
  rw [(by decide : (4 : Int32).toNatClampNeg = 4)] at h1 h2
  exact kk H1 locs1 (P_eq (l_st8_4e (be := be) (cI := cI) (cJ := cJ) (wr := wr) (σ := σ) (ρ := ρ) (γ := γ) (k := 0) (v := v) (η := 0) (b9 := false)) h1) (D_eq (l_st8_4e (be := be) (cI := cI) (cJ := cJ) (wr := wr) (σ := σ) (ρ := ρ) (γ := γ) (k := 0) (v := v) (η := 0) (b9 := false)) h2) h3
end LR
