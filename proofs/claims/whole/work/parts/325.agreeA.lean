/-! ===== the class's answer is the reference's ===== -/
theorem inO_no_used {σ τ : St} (h : Aw σ τ) (hn : ∀ i, i < 32 → inO τ i = false) : used τ = mPin σ true := sumI_c fun i hi => by
  obtain ⟨h1, h2, h3, h4, h5, h6, h7⟩ := h
  unfold uF mPF
  have e3 : gS τ 3 i = gS σ 3 i := S_e h3 3 i
  have e2 := h5 2 i (by decide)
  have hni := hn i hi
  unfold inO at hni
  cases hb : gB τ 1 i with
  | true =>
    have g1 := h6 i hb
    rw [hb, e2] at hni
    have g2 : gB σ 2 i = true := by simpa using hni
    rw [g1, g2, e3]
    rfl
  | false =>
    cases g1 : gB σ 1 i with
    | false => simp
    | true =>
      cases g2 : gB σ 2 i with
      | false => simp
      | true =>
        have := h7 i g1 g2
        rw [hb] at this; cases this
theorem run_any {n : Nat} {ρ : St} {z : Int32} (hV : V n ρ) (hp : ¬ gI ρ 3 < mPin ρ true + z) : ∃ N, mRun (fun s => gI s 3 < used s + z) N (runT ρ) := by
  obtain ⟨h1, h2, h3, h4⟩ := stopN_spec (fun j => decide (gI ρ 3 < used (lvI ρ j) + z)) 32 0
  generalize stopN (fun j => decide (gI ρ 3 < used (lvI ρ j) + z)) 32 0 = N at h1 h2 h3 h4
  have hex : ∀ j, gI ρ 3 < used (lvI ρ j) + z → ∃ k, nxt (lvI ρ j) none = some k := fun j hj => by
    generalize e : nxt (lvI ρ j) none = o
    cases o with
    | some k => exact ⟨k, rfl⟩
    | none =>
      refine absurd hj ?_
      rw [inO_no_used (lvI_aw ρ j) (fun i hi => by have := nxt_n (aw_V (lvI_aw ρ j) hV).ord e hi; simpa [beh] using this)]
      exact hp
  have hc : ∀ j, j < N → gI ρ 3 < used (lvI ρ j) + z := fun j hj => by simpa using h3 j (Nat.zero_le _) hj
  refine ⟨N, fun j hj => ?_, ?_⟩
  · obtain ⟨k, hk⟩ := hex j (hc j hj)
    refine ⟨?_, k, nxt_lt hk, ?_, runT_s hk⟩
    · show gI (runT ρ j) 3 < used (runT ρ j) + z
      rw [runT_3, runT, used_uI]; exact hc j hj
    · rw [at_0 (runT_V hV j).ord, runT, nxt_uI]; exact hk
  · show ¬ gI (runT ρ N) 3 < used (runT ρ N) + z
    rw [runT_3, runT, used_uI]
    rcases h4 with h4 | h4
    · have h6 := lvI_cnt (σ := ρ) N (fun j hj q => by obtain ⟨k, hk⟩ := hex j (hc j hj); rw [q] at hk; cases hk)
      rw [inO_no_used (lvI_aw ρ N) (fun i hi => cnt_z (by omega) hi)]
      exact hp
    · simpa using h4
theorem V_20 {n : Nat} {σ : St} (h : V n σ) (v : Int32) : V (n + 1) (uI σ 20 v) := (V_uI h (by decide) v).up (Nat.le_succ n)
theorem I20 (σ : St) (v : Int32) : gI (uI σ 20 v) 20 = v := by rw [gI_u, if_pos rfl]
theorem nth_uI (σ : St) (j : Nat) (v : Int32) (n : Nat) : nth (uI σ j v) n = nth σ n := by
  induction n with
  | zero => rw [nth_0, nth_0, nxt_uI]
  | succ n ih =>
    generalize e : nth σ n = o at ih
    cases o with
    | none => rw [nth_n e, nth_n ih]
    | some k => rw [nth_k e, nth_k ih, nxt_uI]
theorem nth_le {σ : St} {m : Nat} (h : nth σ m = none) : ∀ n, m ≤ n → nth σ n = none := by
  intro n
  induction n with
  | zero => intro q; rw [show 0 = m by omega]; exact h
  | succ n ih =>
    intro q
    by_cases e : m = n + 1
    · rw [← e]; exact h
    · exact nth_n (ih (by omega))

theorem g_has {n : Nat} {σ : St} {v : Int64} {t : Int32} (hV : V n σ) {r : Int32} {u1 : St × Int64} (h1 : (r = 0 ∧ (∃ r0 : Int32, (isT t = true ∧ (∀ k, k < 32 → t = nI k → r0 = bI (gB (uI σ 20 0) 1 k)) ∧ u1.1 = (uI σ 20 0)) ∧ u1.2 = (if r0 = 0 then 0 else 1))) ∨ (r = 1 ∧ (isT t = false) ∧ u1 = ((uI σ 20 0), v))) {r2 : Int32} {u2 : St} (h2 : (isT t = false → r2 = 0 ∧ u2 = uI σ 20 1) ∧ (∀ k, k < 32 → t = nI k → r2 = bI (gB σ 1 k) ∧ u2 = uI σ 20 0)) : Cq u1.1 u2 ∧ V (n + 1) u2 ∧ r = gI u2 20 ∧ (r = 0 → u1.2 = (if r2 = 0 then 0 else 1)) := by
  rcases h1 with ⟨rfl, r0, ⟨hT, hF, hu⟩, hv⟩ | ⟨rfl, hT, hu⟩
  · obtain ⟨k, hk, rfl⟩ := isT_nI hT
    obtain ⟨hb, hu2⟩ := h2.2 k hk rfl
    have hr := hF k hk rfl
    rw [hu, hu2]
    refine ⟨Cq.rf _, V_20 hV 0, (I20 σ 0).symm, fun _ => ?_⟩
    rw [hv, hr, hb]
    rfl
  · obtain ⟨-, hu2⟩ := h2.1 hT
    rw [hu, hu2]
    exact ⟨Cq_20 (Cq_02 (Cq.rf σ) 0) 1, V_20 hV 1, (I20 σ 1).symm, fun q => absurd q (by decide)⟩

theorem g_isOver {n : Nat} {σ : St} {v : Int64} {t : Int32} (hV : V n σ) {r : Int32} {u1 : St × Int64} (h1 : (r = 0 ∧ (∃ r0 : Int32, (isT t = true ∧ (∀ k, k < 32 → t = nI k → r0 = bI (gB (uI σ 20 0) 1 k && ended (uI σ 20 0) k)) ∧ u1.1 = (uI σ 20 0)) ∧ u1.2 = (if r0 = 0 then 0 else 1))) ∨ (r = 1 ∧ (isT t = false) ∧ u1 = ((uI σ 20 0), v))) {r2 : Int32} {u2 : St} (h2 : (isT t = false → r2 = 0 ∧ u2 = uI σ 20 1) ∧ (∀ k, k < 32 → t = nI k → r2 = bI (ovr (uI σ 20 0) k) ∧ u2 = uI σ 20 0)) : Cq u1.1 u2 ∧ V (n + 1) u2 ∧ r = gI u2 20 ∧ (r = 0 → u1.2 = (if r2 = 0 then 0 else 1)) := by
  rcases h1 with ⟨rfl, r0, ⟨hT, hF, hu⟩, hv⟩ | ⟨rfl, hT, hu⟩
  · obtain ⟨k, hk, rfl⟩ := isT_nI hT
    obtain ⟨hb, hu2⟩ := h2.2 k hk rfl
    have hr := hF k hk rfl
    rw [hu, hu2]
    refine ⟨Cq.rf _, V_20 hV 0, (I20 σ 0).symm, fun _ => ?_⟩
    rw [hv, hr, hb]
    rfl
  · obtain ⟨-, hu2⟩ := h2.1 hT
    rw [hu, hu2]
    exact ⟨Cq_20 (Cq_02 (Cq.rf σ) 0) 1, V_20 hV 1, (I20 σ 1).symm, fun q => absurd q (by decide)⟩

theorem g_sizeOf {n : Nat} {σ : St} {v : Int64} {t : Int32} (hV : V n σ) {r : Int32} {u1 : St × Int64} (h1 : (r = 0 ∧ (∃ r0 : Int32, (isT t = true ∧ (∀ k, k < 32 → t = nI k → r0 = if gB (uI σ 20 0) 1 k then gS (uI σ 20 0) 3 k else 0) ∧ u1.1 = (uI σ 20 0)) ∧ u1.2 = r0.toInt64)) ∨ (r = 1 ∧ (isT t = false) ∧ u1 = ((uI σ 20 0), v))) {r2 : Int32} {u2 : St} (h2 : (isT t = false → r2 = 0 ∧ u2 = uI σ 20 1) ∧ (∀ k, k < 32 → t = nI k → r2 = (if gB σ 1 k then gS σ 3 k else 0) ∧ u2 = uI σ 20 0)) : Cq u1.1 u2 ∧ V (n + 1) u2 ∧ r = gI u2 20 ∧ (r = 0 → u1.2 = r2.toInt64) := by
  rcases h1 with ⟨rfl, r0, ⟨hT, hF, hu⟩, hv⟩ | ⟨rfl, hT, hu⟩
  · obtain ⟨k, hk, rfl⟩ := isT_nI hT
    obtain ⟨hb, hu2⟩ := h2.2 k hk rfl
    have hr := hF k hk rfl
    rw [hu, hu2]
    refine ⟨Cq.rf _, V_20 hV 0, (I20 σ 0).symm, fun _ => ?_⟩
    rw [hv, hr, hb]
    rfl
  · obtain ⟨-, hu2⟩ := h2.1 hT
    rw [hu, hu2]
    exact ⟨Cq_20 (Cq_02 (Cq.rf σ) 0) 1, V_20 hV 1, (I20 σ 1).symm, fun q => absurd q (by decide)⟩

theorem g_frequencyOf {n : Nat} {σ : St} {v : Int64} {t : Int32} (hV : V n σ) {r : Int32} {u1 : St × Int64} (h1 : (r = 0 ∧ (∃ r0 : Int32, (isT t = true ∧ (∀ k, k < 32 → t = nI k → r0 = if gB (uI σ 20 0) 1 k then gS (uI σ 20 0) 4 k else 0) ∧ u1.1 = (uI σ 20 0)) ∧ u1.2 = r0.toInt64)) ∨ (r = 1 ∧ (isT t = false) ∧ u1 = ((uI σ 20 0), v))) {r2 : Int32} {u2 : St} (h2 : (isT t = false → r2 = 0 ∧ u2 = uI σ 20 1) ∧ (∀ k, k < 32 → t = nI k → r2 = (if gB σ 1 k then gS σ 4 k else 0) ∧ u2 = uI σ 20 0)) : Cq u1.1 u2 ∧ V (n + 1) u2 ∧ r = gI u2 20 ∧ (r = 0 → u1.2 = r2.toInt64) := by
  rcases h1 with ⟨rfl, r0, ⟨hT, hF, hu⟩, hv⟩ | ⟨rfl, hT, hu⟩
  · obtain ⟨k, hk, rfl⟩ := isT_nI hT
    obtain ⟨hb, hu2⟩ := h2.2 k hk rfl
    have hr := hF k hk rfl
    rw [hu, hu2]
    refine ⟨Cq.rf _, V_20 hV 0, (I20 σ 0).symm, fun _ => ?_⟩
    rw [hv, hr, hb]
    rfl
  · obtain ⟨-, hu2⟩ := h2.1 hT
    rw [hu, hu2]
    exact ⟨Cq_20 (Cq_02 (Cq.rf σ) 0) 1, V_20 hV 1, (I20 σ 1).symm, fun q => absurd q (by decide)⟩

theorem g_worthOf {n : Nat} {σ : St} {v : Int64} {t : Int32} (hV : V n σ) {r : Int32} {u1 : St × Int64} (h1 : (r = 0 ∧ (∃ r0 : Int64, (isT t = true ∧ (∀ k, k < 32 → t = nI k → r0 = if gB (uI σ 20 0) 1 k then gT (uI σ 20 0) 6 k else -1) ∧ u1.1 = (uI σ 20 0)) ∧ u1.2 = r0)) ∨ (r = 1 ∧ (isT t = false) ∧ u1 = ((uI σ 20 0), v))) {r2 : Int64} {u2 : St} (h2 : (isT t = false → r2 = 0 ∧ u2 = uI σ 20 1) ∧ (∀ k, k < 32 → t = nI k → r2 = (if gB σ 1 k then gT σ 6 k else -1) ∧ u2 = uI σ 20 0)) : Cq u1.1 u2 ∧ V (n + 1) u2 ∧ r = gI u2 20 ∧ (r = 0 → u1.2 = r2) := by
  rcases h1 with ⟨rfl, r0, ⟨hT, hF, hu⟩, hv⟩ | ⟨rfl, hT, hu⟩
  · obtain ⟨k, hk, rfl⟩ := isT_nI hT
    obtain ⟨hb, hu2⟩ := h2.2 k hk rfl
    have hr := hF k hk rfl
    rw [hu, hu2]
    refine ⟨Cq.rf _, V_20 hV 0, (I20 σ 0).symm, fun _ => ?_⟩
    rw [hv, hr, hb]
    rfl
  · obtain ⟨-, hu2⟩ := h2.1 hT
    rw [hu, hu2]
    exact ⟨Cq_20 (Cq_02 (Cq.rf σ) 0) 1, V_20 hV 1, (I20 σ 1).symm, fun q => absurd q (by decide)⟩

theorem g_endOf {n : Nat} {σ : St} {v : Int64} {t : Int32} (hV : V n σ) {r : Int32} {u1 : St × Int64} (h1 : (r = 0 ∧ (∃ r0 : Int32, (isT t = true ∧ (∀ k, k < 32 → t = nI k → r0 = if gB (uI σ 20 0) 1 k then gS (uI σ 20 0) 5 k else -1) ∧ u1.1 = (uI σ 20 0)) ∧ u1.2 = r0.toInt64)) ∨ (r = 1 ∧ (isT t = false) ∧ u1 = ((uI σ 20 0), v))) {r2 : Int32} {u2 : St} (h2 : (isT t = false → r2 = 0 ∧ u2 = uI σ 20 1) ∧ (∀ k, k < 32 → t = nI k → r2 = (if gB σ 1 k then gS σ 5 k else -1) ∧ u2 = uI σ 20 0)) : Cq u1.1 u2 ∧ V (n + 1) u2 ∧ r = gI u2 20 ∧ (r = 0 → u1.2 = r2.toInt64) := by
  rcases h1 with ⟨rfl, r0, ⟨hT, hF, hu⟩, hv⟩ | ⟨rfl, hT, hu⟩
  · obtain ⟨k, hk, rfl⟩ := isT_nI hT
    obtain ⟨hb, hu2⟩ := h2.2 k hk rfl
    have hr := hF k hk rfl
    rw [hu, hu2]
    refine ⟨Cq.rf _, V_20 hV 0, (I20 σ 0).symm, fun _ => ?_⟩
    rw [hv, hr, hb]
    rfl
  · obtain ⟨-, hu2⟩ := h2.1 hT
    rw [hu, hu2]
    exact ⟨Cq_20 (Cq_02 (Cq.rf σ) 0) 1, V_20 hV 1, (I20 σ 1).symm, fun q => absurd q (by decide)⟩

theorem g_placeOf {n : Nat} {σ : St} {v : Int64} {t : Int32} (hV : V n σ) {r : Int32} {u1 : St × Int64} (h1 : (r = 0 ∧ (∃ r0 : Int32, (isT t = true ∧ (∀ k9, k9 < 32 → t = nI k9 → r0 = cPlace (uI σ 20 0) k9) ∧ u1.1 = (uI σ 20 0)) ∧ u1.2 = r0.toInt64)) ∨ (r = 1 ∧ (isT t = false) ∧ u1 = ((uI σ 20 0), v))) {r2 : Int32} {u2 : St} (h2 : (isT t = false → r2 = 0 ∧ u2 = uI σ 20 1) ∧ (∀ k, k < 32 → t = nI k → r2 = mPlace (uI σ 20 0) k ∧ u2 = uI σ 20 0)) : Cq u1.1 u2 ∧ V (n + 1) u2 ∧ r = gI u2 20 ∧ (r = 0 → u1.2 = r2.toInt64) := by
  rcases h1 with ⟨rfl, r0, ⟨hT, hF, hu⟩, hv⟩ | ⟨rfl, hT, hu⟩
  · obtain ⟨k, hk, rfl⟩ := isT_nI hT
    obtain ⟨hb, hu2⟩ := h2.2 k hk rfl
    have hr := hF k hk rfl
    rw [hu, hu2]
    refine ⟨Cq.rf _, V_20 hV 0, (I20 σ 0).symm, fun _ => ?_⟩
    rw [hv, hr, hb, cPlace_eq hk]
  · obtain ⟨-, hu2⟩ := h2.1 hT
    rw [hu, hu2]
    exact ⟨Cq_20 (Cq_02 (Cq.rf σ) 0) 1, V_20 hV 1, (I20 σ 1).symm, fun q => absurd q (by decide)⟩

theorem g_pass {n : Nat} {σ : St} {v : Int64} {t : Int32} (hV : V n σ) {r : Int32} {u1 : St × Int64} (h1 : (r = 0 ∧ (∃ r0 : Int32, (inR t 1 10000 = true ∧ r0 = gI (uI σ 20 0) 1 + t ∧ u1.1 = uI (uI σ 20 0) 1 (gI (uI σ 20 0) 1 + t)) ∧ u1.2 = r0.toInt64)) ∨ (r = 1 ∧ (inR t 1 10000 = false) ∧ u1 = ((uI σ 20 0), v))) {r2 : Int32} {u2 : St} (h2 : r2 = (if inR t 1 10000 then gI σ 1 + t else 0) ∧ u2 = (if inR t 1 10000 then uI (uI σ 20 0) 1 (gI σ 1 + t) else uI (uI σ 20 1) 1 (gI σ 1 + 0))) : Cq u1.1 u2 ∧ V (n + 1) u2 ∧ r = gI u2 20 ∧ (r = 0 → u1.2 = r2.toInt64) := by
  rcases h1 with ⟨rfl, r0, ⟨hT, hr, hu⟩, hv⟩ | ⟨rfl, hT, hu⟩
  · rw [hT, if_pos rfl, if_pos rfl] at h2
    rw [hu, h2.2]
    refine ⟨Cq.rf _, (V_uI (V_uI hV (by decide) 0) (by decide) _).up (Nat.le_succ n), ?_, fun _ => ?_⟩
    · rw [gI_u, if_neg (by decide), I20]
    · rw [hv, hr, h2.1]; rfl
  · have e : gI σ 1 + 0 = gI (uI σ 20 1) 1 := Int32.add_zero _
    rw [hT, if_neg (by decide), if_neg (by decide), e, uI_self] at h2
    rw [hu, h2.2]
    exact ⟨Cq_20 (Cq_02 (Cq.rf σ) 0) 1, V_20 hV 1, (I20 σ 1).symm, fun q => absurd q (by decide)⟩

theorem g_setThreshold {n : Nat} {σ : St} {v : Int64} {t : Int32} (hV : V n σ) {r : Int32} {u1 : St × Int64} (h1 : (r = 0 ∧ (∃ r0 : Int32, (inR t 1 1000 = true ∧ r0 = gI (uI σ 20 0) 4 ∧ u1.1 = uI (uI σ 20 0) 4 t) ∧ u1.2 = r0.toInt64)) ∨ (r = 1 ∧ (inR t 1 1000 = false) ∧ u1 = ((uI σ 20 0), v))) {r2 : Int32} {u2 : St} (h2 : r2 = (if inR t 1 1000 then gI σ 4 else 0) ∧ u2 = (if inR t 1 1000 then uI (uI σ 20 0) 4 t else uI σ 20 1)) : Cq u1.1 u2 ∧ V (n + 1) u2 ∧ r = gI u2 20 ∧ (r = 0 → u1.2 = r2.toInt64) := by
  rcases h1 with ⟨rfl, r0, ⟨hT, hr, hu⟩, hv⟩ | ⟨rfl, hT, hu⟩
  · rw [hT, if_pos rfl, if_pos rfl] at h2
    rw [hu, h2.2]
    refine ⟨Cq.rf _, (V_uI (V_uI hV (by decide) 0) (by decide) _).up (Nat.le_succ n), ?_, fun _ => ?_⟩
    · rw [gI_u, if_neg (by decide), I20]
    · rw [hv, hr, h2.1]; rfl
  · rw [hT, if_neg (by decide), if_neg (by decide)] at h2
    rw [hu, h2.2]
    exact ⟨Cq_20 (Cq_02 (Cq.rf σ) 0) 1, V_20 hV 1, (I20 σ 1).symm, fun q => absurd q (by decide)⟩

theorem g_pin {n : Nat} {σ : St} {v : Int64} {t : Int32} {b : Bool} (hV : V n σ) {r : Int32} {u1 : St × Int64} (h1 : (r = 0 ∧ (∃ r0 : Int32, (isT t = true ∧ (∀ k, k < 32 → t = nI k → gB (uI (uI σ 20 0) 20 0) 1 k = true ∧ r0 = bI (gB (uI (uI σ 20 0) 20 0) 2 k) ∧ u1.1 = uB (uI (uI σ 20 0) 20 0) 2 k b)) ∧ u1.2 = (if r0 = 0 then 0 else 1))) ∨ (r = 1 ∧ (isT t = false) ∧ u1 = ((uI (uI σ 20 0) 20 0), v)) ∨ (r = 2 ∧ (isT t = true ∧ ∀ k, k < 32 → t = nI k → gB (uI (uI σ 20 0) 20 0) 1 k = false) ∧ u1 = ((uI (uI σ 20 0) 20 0), v))) {r2 : Int32} {u2 : St} (h2 : (isT t = false → r2 = 0 ∧ u2 = uI σ 20 1) ∧ (∀ k, k < 32 → t = nI k → r2 = bI (gB σ 1 k && gB σ 2 k) ∧ u2 = (if gB σ 1 k then uB (uI (uI σ 20 0) 20 0) 2 k b else uI (uI σ 20 0) 20 2))) : Cq u1.1 u2 ∧ V (n + 1) u2 ∧ r = gI u2 20 ∧ (r = 0 → u1.2 = (if r2 = 0 then 0 else 1)) := by
  rcases h1 with ⟨rfl, r0, ⟨hT, hF⟩, hv⟩ | ⟨rfl, hT, hu⟩ | ⟨rfl, ⟨hT, hF⟩, hu⟩
  · obtain ⟨k, hk, rfl⟩ := isT_nI hT
    obtain ⟨hb, hu2⟩ := h2.2 k hk rfl
    obtain ⟨hB, hr, hu⟩ := hF k hk rfl
    rw [if_pos (show gB σ 1 k = true from hB)] at hu2
    rw [hu, hu2]
    refine ⟨Cq.rf _, ?_, (I20 (uI σ 20 0) 0).symm, fun _ => ?_⟩
    · refine V.up (n := n) ?_ (Nat.le_succ n)
      refine V.of (V_uI (V_uI hV (j := 20) (by decide) 0) (j := 20) (by decide) 0) (fun i _ q => ?_) ?_ rfl (fun _ => rfl)
      · rw [gB_u] at q
        rw [if_neg (by decide)] at q; exact ⟨q, rfl, rfl⟩
      · exact hV.2.1
    · rw [hv, hr, hb, show gB σ 1 k = true from hB, Bool.true_and]; rfl
  · obtain ⟨-, hu2⟩ := h2.1 hT
    rw [hu, hu2]
    exact ⟨Cq_20 (Cq_02 (Cq_02 (Cq.rf σ) 0) 0) 1, V_20 hV 1, (I20 σ 1).symm, fun q => absurd q (by decide)⟩
  · obtain ⟨k, hk, rfl⟩ := isT_nI hT
    obtain ⟨-, hu2⟩ := h2.2 k hk rfl
    have hB : gB σ 1 k = false := hF k hk rfl
    rw [hB, if_neg (by decide)] at hu2
    rw [hu, hu2]
    exact ⟨Cq_20 (Cq_02 (Cq.rf _) 0) 2, V_20 (V_uI hV (by decide) 0) 2, (I20 (uI σ 20 0) 2).symm, fun q => absurd q (by decide)⟩

theorem g_drop {n : Nat} {σ : St} {v : Int64} {t : Int32} (hV : V n σ) {r : Int32} {u1 : St × Int64} (h1 : (r = 0 ∧ (∃ r0 : Int32, (isT t = true ∧ (∀ k, k < 32 → t = nI k → gB (uI (uI σ 20 0) 20 0) 1 k = true ∧ r0 = gS (uI (uI σ 20 0) 20 0) 3 k ∧ u1.1 = uB (uI (uI σ 20 0) 20 0) 1 k false)) ∧ u1.2 = r0.toInt64)) ∨ (r = 1 ∧ (isT t = false) ∧ u1 = ((uI (uI σ 20 0) 20 0), v)) ∨ (r = 2 ∧ (isT t = true ∧ ∀ k, k < 32 → t = nI k → gB (uI (uI σ 20 0) 20 0) 1 k = false) ∧ u1 = ((uI (uI σ 20 0) 20 0), v))) {r2 : Int32} {u2 : St} (h2 : (isT t = false → r2 = 0 ∧ u2 = uI σ 20 1) ∧ (∀ k, k < 32 → t = nI k → r2 = (if gB σ 1 k then gS σ 3 k else 0) ∧ u2 = (if gB σ 1 k then uB (uI (uI σ 20 0) 20 0) 1 k false else uI (uI σ 20 0) 20 2))) : Cq u1.1 u2 ∧ V (n + 1) u2 ∧ r = gI u2 20 ∧ (r = 0 → u1.2 = r2.toInt64) := by
  rcases h1 with ⟨rfl, r0, ⟨hT, hF⟩, hv⟩ | ⟨rfl, hT, hu⟩ | ⟨rfl, ⟨hT, hF⟩, hu⟩
  · obtain ⟨k, hk, rfl⟩ := isT_nI hT
    obtain ⟨hb, hu2⟩ := h2.2 k hk rfl
    obtain ⟨hB, hr, hu⟩ := hF k hk rfl
    rw [if_pos (show gB σ 1 k = true from hB)] at hu2
    rw [hu, hu2]
    refine ⟨Cq.rf _, ?_, (I20 (uI σ 20 0) 0).symm, fun _ => ?_⟩
    · refine V.up (n := n) ?_ (Nat.le_succ n)
      refine V.of (V_uI (V_uI hV (j := 20) (by decide) 0) (j := 20) (by decide) 0) (fun i _ q => ?_) ?_ rfl (fun _ => rfl)
      · rw [gB_u] at q
        rw [if_pos rfl] at q
        by_cases e : i = k
        · rw [if_pos e] at q; cases q
        · rw [if_neg e] at q; exact ⟨q, rfl, rfl⟩
      · exact hV.2.1
    · rw [hv, hr, hb, if_pos (show gB σ 1 k = true from hB)]; rfl
  · obtain ⟨-, hu2⟩ := h2.1 hT
    rw [hu, hu2]
    exact ⟨Cq_20 (Cq_02 (Cq_02 (Cq.rf σ) 0) 0) 1, V_20 hV 1, (I20 σ 1).symm, fun q => absurd q (by decide)⟩
  · obtain ⟨k, hk, rfl⟩ := isT_nI hT
    obtain ⟨-, hu2⟩ := h2.2 k hk rfl
    have hB : gB σ 1 k = false := hF k hk rfl
    rw [hB, if_neg (by decide)] at hu2
    rw [hu, hu2]
    exact ⟨Cq_20 (Cq_02 (Cq.rf _) 0) 2, V_20 (V_uI hV (by decide) 0) 2, (I20 (uI σ 20 0) 2).symm, fun q => absurd q (by decide)⟩

theorem g_leaving {n : Nat} {σ : St} {v : Int64} {t : Int32} (hV : V n σ) (hn9 : n < 2 ^ 30) : ∃ N : Nat, (N < 64 ∧ (∀ j, j < N → nI j < t ∧ nth (uI σ 20 0) j ≠ none) ∧ (¬ nI N < t ∨ nth (uI σ 20 0) N = none) ∧ (¬ t < 32 → nth (uI σ 20 0) N = none)) ∧ ∀ (r : Int32) (u1 : St × Int64) (r2 : Int32) (u2 : St), ((r = 0 ∧ (∃ r0 : Int32, (¬ t < 0 ∧ (∃ k, nth (uI σ 20 0) N = some k ∧ r0 = gS (uI σ 20 0) 0 k) ∧ u1.1 = (uI σ 20 0)) ∧ u1.2 = r0.toInt64)) ∨ (r = 1 ∧ ((t < 0 ∨ nth (uI σ 20 0) N = none)) ∧ u1 = ((uI σ 20 0), v))) → (∀ o, o = (if t < 0 then none else atR σ t 32) → (o = none → r2 = 0 ∧ u2 = uI σ 20 1) ∧ (∀ k, o = some k → r2 = nI k ∧ u2 = uI σ 20 0)) → Cq u1.1 u2 ∧ V (n + 1) u2 ∧ r = gI u2 20 ∧ (r = 0 → u1.2 = r2.toInt64) := by
  obtain ⟨s1, s2, s3, s4⟩ := stopN_spec (fun j => decide (nI j < t) && (nth σ j).isSome) 32 0
  generalize stopN (fun j => decide (nI j < t) && (nth σ j).isSome) 32 0 = N at s1 s2 s3 s4
  have ho := hV.ord
  have a1 : ∀ j, j < N → nI j < t ∧ nth (uI σ 20 0) j ≠ none := fun j hj => by
    have := s3 j (Nat.zero_le _) hj
    simp only [Bool.and_eq_true, decide_eq_true_eq] at this
    refine ⟨this.1, fun q => ?_⟩
    rw [nth_uI] at q
    rw [q] at this
    exact absurd this.2 (by decide)
  have a2 : ¬ nI N < t ∨ nth (uI σ 20 0) N = none := by
    rw [nth_uI]
    rcases s4 with s4 | s4
    · exact Or.inr (nth_32 ho (by omega))
    · simp only [Bool.and_eq_false_iff, decide_eq_false_iff_not] at s4
      rcases s4 with s4 | s4
      · exact Or.inl s4
      · exact Or.inr (by simpa using s4)
  have a3 : ¬ t < 32 → nth (uI σ 20 0) N = none := fun q32 => by
    rw [nth_uI]
    rcases Nat.lt_or_ge N 32 with q | q
    · rcases s4 with s4 | s4
      · omega
      · simp only [Bool.and_eq_false_iff, decide_eq_false_iff_not] at s4
        rcases s4 with s4 | s4
        · have e32 : (32 : Int32).toInt = 32 := by decide
          refine absurd ?_ s4
          rw [Int32.lt_iff_toInt_lt, e32] at q32
          rw [Int32.lt_iff_toInt_lt, nI_toInt (by omega)]
          omega
        · simpa using s4
    · exact nth_32 ho q
  refine ⟨N, ⟨by omega, a1, a2, a3⟩, ?_⟩
  intro r u1 r2 u2 h1 h2
  have key : ¬ t < 0 → ∃ T, T < 2 ^ 31 ∧ t = nI T ∧ N ≤ T := fun h0 => by
    obtain ⟨T, hT, rfl⟩ := nI_of h0
    refine ⟨T, hT, rfl, ?_⟩
    rcases Nat.lt_or_ge T N with q | q
    · have := (a1 T q).1
      rw [Int32.lt_iff_toInt_lt] at this
      exact absurd this (Int.lt_irrefl _)
    · exact q
  rcases h1 with ⟨rfl, r0, ⟨h0, ⟨k, hk, hr⟩, hu⟩, hv⟩ | ⟨rfl, hor, hu⟩
  · obtain ⟨T, hT, rfl, hN⟩ := key h0
    have hk' : nth σ N = some k := by rw [← nth_uI σ 20 0]; exact hk
    have e : N = T := by
      rcases a2 with q | q
      · rw [nI_ltI (by omega) hT] at q; omega
      · rw [hk] at q; cases q
    obtain ⟨-, h3⟩ := h2 (some k) (by rw [if_neg h0, at_nth ho hT, ← e, hk'])
    obtain ⟨hb, hu2⟩ := h3 k rfl
    rw [hu, hu2]
    refine ⟨Cq.rf _, V_20 hV 0, (I20 σ 0).symm, fun _ => ?_⟩
    rw [hv, hr, hb]
    have := hV.2.2.2.2.2 k (nth_lt hk')
    rw [← this]
    rfl
  · obtain ⟨h3, -⟩ := h2 none (by
      rcases hor with q | q
      · rw [if_pos q]
      · by_cases h0 : t < 0
        · rw [if_pos h0]
        · obtain ⟨T, hT, rfl, hN⟩ := key h0
          rw [nth_uI] at q
          rw [if_neg h0, at_nth ho hT, nth_le q T hN])
    obtain ⟨-, hu2⟩ := h3 rfl
    rw [hu, hu2]
    exact ⟨Cq_20 (Cq_02 (Cq.rf σ) 0) 1, V_20 hV 1, (I20 σ 1).symm, fun q => absurd q (by decide)⟩

theorem g_wouldLeave {n : Nat} {σ : St} {v : Int64} {t : Int32} (hV : V n σ) (hn9 : n < 2 ^ 30) : ∃ N : Nat, (inR t 1 1000 = false ∨ ¬ gI σ 3 < used (uI σ 20 0) + t ∨ gI σ 3 < mPin (uI σ 20 0) false + t ∨ ((∀ j, j < N → gI σ 3 < (mWl (uI σ 20 0) j).1 + t ∧ ∃ k, k < 32 ∧ atR (uI σ 20 0) (nI j) 32 = some k) ∧ ¬ gI σ 3 < (mWl (uI σ 20 0) N).1 + t)) ∧ ∀ (r : Int32) (u1 : St × Int64) (r2 : Int32) (u2 : St), ((r = 0 ∧ (∃ r0 : Int32, (inR t 1 1000 = true ∧ r0 = cWould (uI σ 20 0) t ∧ u1.1 = (uI σ 20 0)) ∧ u1.2 = r0.toInt64)) ∨ (r = 1 ∧ (inR t 1 1000 = false) ∧ u1 = ((uI σ 20 0), v))) → (r2 = (if inR t 1 1000 then (if gI σ 3 < used (uI σ 20 0) + t then (if gI σ 3 < mPin (uI σ 20 0) false + t then -1 else (mWl (uI σ 20 0) N).2) else 0) else 0) ∧ u2 = (if inR t 1 1000 then (uI σ 20 0) else uI σ 20 1)) → Cq u1.1 u2 ∧ V (n + 1) u2 ∧ r = gI u2 20 ∧ (r = 0 → u1.2 = r2.toInt64) := by
  by_cases hi : inR t 1 1000 = true
  · have hi2 := inR_i hi
    have hS := V_uI hV (j := 20) (by decide) 0
    obtain ⟨N, w1, w2⟩ := would_ok hS (t := t) hi2
    refine ⟨N, Or.inr w1, ?_⟩
    intro r u1 r2 u2 h1 h2
    rw [hi, if_pos rfl, if_pos rfl] at h2
    rcases h1 with ⟨rfl, r0, ⟨hT, hr, hu⟩, hv⟩ | ⟨rfl, hT, hu⟩
    · rw [hu, h2.2]
      refine ⟨Cq.rf _, V_20 hV 0, (I20 σ 0).symm, fun _ => ?_⟩
      rw [hv, hr, h2.1, w2]
      rfl
    · rw [hi] at hT; cases hT
  · have hi : inR t 1 1000 = false := by simpa using hi
    refine ⟨0, Or.inl hi, ?_⟩
    intro r u1 r2 u2 h1 h2
    rw [hi, if_neg (by decide), if_neg (by decide)] at h2
    rcases h1 with ⟨rfl, r0, ⟨hT, hr, hu⟩, hv⟩ | ⟨rfl, hT, hu⟩
    · rw [hi] at hT; cases hT
    · rw [hu, h2.2]
      exact ⟨Cq_20 (Cq_02 (Cq.rf σ) 0) 1, V_20 hV 1, (I20 σ 1).symm, fun q => absurd q (by decide)⟩

theorem g_setCapacity {n : Nat} {σ : St} {v : Int64} {t : Int32} (hV : V n σ) (hn9 : n < 2 ^ 30) : ∃ (N : Nat) (τ : Nat → St), (inR t 1 10000 = false ∨ t < mPin σ false ∨ (τ 0 = mCap0 σ t ∧ mRun (fun s => t < used s) N τ)) ∧ ∀ (r : Int32) (u1 : St × Int64) (r2 : Int32) (u2 : St), ((r = 0 ∧ (∃ r0 : Int32, (inR t 1 10000 = true ∧ ¬ t < pinA (uI σ 20 0) ∧ r0 = (cSetCap (uI σ 20 0) t).1 ∧ u1.1 = (cSetCap (uI σ 20 0) t).2) ∧ u1.2 = r0.toInt64)) ∨ (r = 1 ∧ (inR t 1 10000 = false) ∧ u1 = ((uI σ 20 0), v)) ∨ (r = 2 ∧ (inR t 1 10000 = true ∧ t < pinA (uI σ 20 0)) ∧ u1 = ((uI σ 20 0), v))) → (r2 = (if inR t 1 10000 then (if t < mPin σ false then 0 else nI N) else 0) ∧ u2 = (if inR t 1 10000 then (if t < mPin σ false then uI σ 20 2 else τ N) else uI σ 20 1)) → Cq u1.1 u2 ∧ V (n + 1) u2 ∧ r = gI u2 20 ∧ (r = 0 → u1.2 = r2.toInt64) := by
  have hp0 : pinA (uI σ 20 0) = mPin σ false := by
    rw [mPinF]
    exact congrArg (fun f => sumI f 32) (funext fun k => rfl)
  by_cases hi : inR t 1 10000 = true
  · by_cases hp : t < mPin σ false
    · refine ⟨0, fun _ => σ, Or.inr (Or.inl hp), ?_⟩
      intro r u1 r2 u2 h1 h2
      rw [hi, if_pos rfl, if_pos rfl, if_pos hp, if_pos hp] at h2
      rcases h1 with ⟨rfl, r0, ⟨hT, hq, hr, hu⟩, hv⟩ | ⟨rfl, hT, hu⟩ | ⟨rfl, ⟨hT, hq⟩, hu⟩
      · rw [hp0] at hq; exact absurd hp hq
      · rw [hi] at hT; cases hT
      · rw [hu, h2.2]
        exact ⟨Cq_20 (Cq_02 (Cq.rf σ) 0) 2, V_20 hV 2, (I20 σ 2).symm, fun q => absurd q (by decide)⟩
    · have hS := V_uI hV (j := 20) (by decide) 0
      obtain ⟨N, τ, ⟨c1, c2⟩, c3, c4⟩ := cap_ok hS hi (by rw [hp0]; exact hp)
      refine ⟨N, τ, Or.inr (Or.inr ⟨c1, c2⟩), ?_⟩
      intro r u1 r2 u2 h1 h2
      rw [hi, if_pos rfl, if_pos rfl, if_neg hp, if_neg hp] at h2
      rcases h1 with ⟨rfl, r0, ⟨hT, hq, hr, hu⟩, hv⟩ | ⟨rfl, hT, hu⟩ | ⟨rfl, ⟨hT, hq⟩, hu⟩
      · rw [c3] at hr hu
        rw [hu, h2.2]
        refine ⟨Cq.rf _, c4.up (Nat.le_succ n), ?_, fun _ => by rw [hv, hr, h2.1]⟩
        have c20 := cap_20 (σ := uI σ 20 0) (t := t)
        rw [c3, I20] at c20
        exact c20.symm
      · rw [hi] at hT; cases hT
      · rw [hp0] at hq; exact absurd hq hp
  · have hi : inR t 1 10000 = false := by simpa using hi
    refine ⟨0, fun _ => σ, Or.inl hi, ?_⟩
    intro r u1 r2 u2 h1 h2
    rw [hi, if_neg (by decide), if_neg (by decide)] at h2
    rcases h1 with ⟨rfl, r0, ⟨hT, hq, hr, hu⟩, hv⟩ | ⟨rfl, hT, hu⟩ | ⟨rfl, ⟨hT, hq⟩, hu⟩
    · rw [hi] at hT; cases hT
    · rw [hu, h2.2]
      exact ⟨Cq_20 (Cq_02 (Cq.rf σ) 0) 1, V_20 hV 1, (I20 σ 1).symm, fun q => absurd q (by decide)⟩
    · rw [hi] at hT; cases hT

theorem g_fetch {n : Nat} {σ : St} {v : Int64} {t sz9 pr lf : Int32} (hV : V n σ) (hn9 : n < 2 ^ 30) : ∃ (N : Nat) (τ : Nat → St), (∀ k, k < 32 → t = nI k → gI (mRoom0 (mMiss (uI (uI σ 20 0) 20 0) k pr) sz9) 3 < mPin (mRoom0 (mMiss (uI (uI σ 20 0) 20 0) k pr) sz9) true + sz9 ∨ (τ 0 = (mRoom0 (mMiss (uI (uI σ 20 0) 20 0) k pr) sz9) ∧ mRun (fun s => gI s 3 < used s + sz9) N τ)) ∧ ∀ (r : Int32) (u1 : St × Int64) (r2 : Int32) (u2 : St), ((r = 0 ∧ (∃ r0 : Int32, (isT t = true ∧ (inR sz9 1 1000 && inR pr 0 1000 && inR lf 1 10000) = true ∧ (∀ k, k < 32 → t = nI k → r0 = (cFetch (uI (uI σ 20 0) 20 0) k sz9 pr lf).1 ∧ u1.1 = (cFetch (uI (uI σ 20 0) 20 0) k sz9 pr lf).2)) ∧ u1.2 = r0.toInt64)) ∨ (r = 1 ∧ (isT t = false) ∧ u1 = ((uI (uI σ 20 0) 20 0), v)) ∨ (r = 2 ∧ (isT t = true ∧ (inR sz9 1 1000 && inR pr 0 1000 && inR lf 1 10000) = false) ∧ u1 = ((uI (uI σ 20 0) 20 0), v))) → ((isT t = false → r2 = 0 ∧ u2 = uI σ 20 1) ∧ (∀ q9, q9 < 32 → t = nI q9 → ((inR sz9 1 1000 && inR pr 0 1000 && inR lf 1 10000) = false → r2 = 0 ∧ u2 = uI (uI σ 20 0) 20 2) ∧ ((inR sz9 1 1000 && inR pr 0 1000 && inR lf 1 10000) = true → r2 = (mFetch (uI (uI σ 20 0) 20 0) q9 sz9 pr lf (τ N)).1 ∧ u2 = (mFetch (uI (uI σ 20 0) 20 0) q9 sz9 pr lf (τ N)).2))) → Cq u1.1 u2 ∧ V (n + 1) u2 ∧ r = gI u2 20 ∧ (r = 0 → u1.2 = r2.toInt64) := by
  by_cases hT : isT t = true
  · obtain ⟨k, hk, rfl⟩ := isT_nI hT
    have hS : V n (uI (uI σ 20 0) 20 0) := V_uI (V_uI hV (by decide) 0) (by decide) 0
    by_cases ho : (inR sz9 1 1000 && inR pr 0 1000 && inR lf 1 10000) = true
    · have hz : 1 ≤ sz9.toInt ∧ sz9.toInt ≤ 1000 := by
        simp only [Bool.and_eq_true] at ho
        exact inR_i ho.1.1
      obtain ⟨N, τ, f1, f2, f3, f4, f5⟩ := fetch_ok hS hn9 hk (z := sz9) (pr := pr) (lf := lf) hz
      refine ⟨N, τ, fun k2 hk2 e2 => by rw [← nI_inj32 hk hk2 e2]; exact f1, ?_⟩
      intro r u1 r2 u2 h1 h2
      rcases h1 with ⟨rfl, r0, ⟨-, -, hF⟩, hv⟩ | ⟨rfl, hT2, hu⟩ | ⟨rfl, ⟨-, ho2⟩, hu⟩
      · obtain ⟨hr, hu⟩ := hF k hk rfl
        obtain ⟨hb, hu2⟩ := (h2.2 k hk rfl).2 ho
        rw [hu, hu2]
        refine ⟨f3, f4, ?_, fun _ => by rw [hv, hr, hb, f2]⟩
        rw [f5]
        exact (I20 _ 0).symm
      · rw [hT2] at hT; cases hT
      · rw [ho] at ho2; cases ho2
    · have ho : (inR sz9 1 1000 && inR pr 0 1000 && inR lf 1 10000) = false := by simpa using ho
      have hW : V n (mRoom0 (mMiss (uI (uI σ 20 0) 20 0) k pr) sz9) := by
        have hM := mMiss_V hS k pr
        generalize mMiss (uI (uI σ 20 0) 20 0) k pr = M at hM ⊢
        unfold mRoom0
        by_cases c : gI M 3 < used M + sz9
        · rw [if_pos c]; exact rmO_V hM
        · rw [if_neg c]; exact hM
      have hrest : ∀ (N : Nat) (τ : Nat → St) (r : Int32) (u1 : St × Int64) (r2 : Int32) (u2 : St), ((r = 0 ∧ (∃ r0 : Int32, (isT (nI k) = true ∧ (inR sz9 1 1000 && inR pr 0 1000 && inR lf 1 10000) = true ∧ (∀ k9, k9 < 32 → (nI k) = nI k9 → r0 = (cFetch (uI (uI σ 20 0) 20 0) k9 sz9 pr lf).1 ∧ u1.1 = (cFetch (uI (uI σ 20 0) 20 0) k9 sz9 pr lf).2)) ∧ u1.2 = r0.toInt64)) ∨ (r = 1 ∧ (isT (nI k) = false) ∧ u1 = ((uI (uI σ 20 0) 20 0), v)) ∨ (r = 2 ∧ (isT (nI k) = true ∧ (inR sz9 1 1000 && inR pr 0 1000 && inR lf 1 10000) = false) ∧ u1 = ((uI (uI σ 20 0) 20 0), v))) → ((isT (nI k) = false → r2 = 0 ∧ u2 = uI σ 20 1) ∧ (∀ q9, q9 < 32 → (nI k) = nI q9 → ((inR sz9 1 1000 && inR pr 0 1000 && inR lf 1 10000) = false → r2 = 0 ∧ u2 = uI (uI σ 20 0) 20 2) ∧ ((inR sz9 1 1000 && inR pr 0 1000 && inR lf 1 10000) = true → r2 = (mFetch (uI (uI σ 20 0) 20 0) q9 sz9 pr lf (τ N)).1 ∧ u2 = (mFetch (uI (uI σ 20 0) 20 0) q9 sz9 pr lf (τ N)).2))) → Cq u1.1 u2 ∧ V (n + 1) u2 ∧ r = gI u2 20 ∧ (r = 0 → u1.2 = r2.toInt64) := by
        intro N τ r u1 r2 u2 h1 h2
        rcases h1 with ⟨rfl, r0, ⟨-, ho2, hF⟩, hv⟩ | ⟨rfl, hT2, hu⟩ | ⟨rfl, ⟨-, ho2⟩, hu⟩
        · rw [ho] at ho2; cases ho2
        · rw [hT2] at hT; cases hT
        · obtain ⟨-, hu2⟩ := (h2.2 k hk rfl).1 ho
          rw [hu, hu2]
          exact ⟨Cq_20 (Cq_02 (Cq.rf _) 0) 2, V_20 (V_uI hV (by decide) 0) 2, (I20 (uI σ 20 0) 2).symm, fun q => absurd q (by decide)⟩
      by_cases hp : gI (mRoom0 (mMiss (uI (uI σ 20 0) 20 0) k pr) sz9) 3 < mPin (mRoom0 (mMiss (uI (uI σ 20 0) 20 0) k pr) sz9) true + sz9
      · exact ⟨0, fun _ => σ, fun k2 hk2 e2 => by rw [← nI_inj32 hk hk2 e2]; exact Or.inl hp, hrest 0 (fun _ => σ)⟩
      · obtain ⟨N, hN⟩ := run_any hW hp
        exact ⟨N, runT _, fun k2 hk2 e2 => by rw [← nI_inj32 hk hk2 e2]; exact Or.inr ⟨runT_0 _, hN⟩, hrest N (runT _)⟩
  · have hT : isT t = false := by simpa using hT
    refine ⟨0, fun _ => σ, fun k hk e => (isT_ff hT hk e).elim, ?_⟩
    intro r u1 r2 u2 h1 h2
    rcases h1 with ⟨rfl, r0, ⟨hT2, -, hF⟩, hv⟩ | ⟨rfl, hT2, hu⟩ | ⟨rfl, ⟨hT2, ho2⟩, hu⟩
    · rw [hT] at hT2; cases hT2
    · obtain ⟨-, hu2⟩ := h2.1 hT
      rw [hu, hu2]
      exact ⟨Cq_20 (Cq_02 (Cq_02 (Cq.rf σ) 0) 0) 1, V_20 hV 1, (I20 σ 1).symm, fun q => absurd q (by decide)⟩
    · rw [hT] at hT2; cases hT2
