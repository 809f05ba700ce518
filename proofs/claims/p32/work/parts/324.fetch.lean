/-! ===== the class's state and the reference's: the same where both look ===== -/
def Cq (X Y : St) : Prop := (∀ j, j ≠ 20 → gI X j = gI Y j) ∧ X.2.1 = Y.2.1 ∧ (∀ j i, j ≠ 9 → gS X j i = gS Y j i) ∧ X.2.2.2.1 = Y.2.2.2.1 ∧ X.2.2.2.2 = Y.2.2.2.2
theorem Cq.rf (X : St) : Cq X X := ⟨fun _ _ => rfl, rfl, fun _ _ _ => rfl, rfl, rfl⟩
theorem B_e {X Y : St} (h : X.2.2.2.2 = Y.2.2.2.2) (j i : Nat) : gB X j i = gB Y j i := by unfold gB; rw [h]
theorem Cq_w {X Y : St} (h : Cq X Y) (ax ar : Nat) (ad : Nat → Nat) (cO : ClassId) : cW ax ar ad cO X = cW ax ar ad cO Y := by
  obtain ⟨h1, h2, h3, h4, h5⟩ := h
  have e1 : cF ar X = cF ar Y := by
    unfold cF
    simp only [L_e h2]
    rw [h1 1 (by decide), h1 3 (by decide), h1 4 (by decide), h1 6 (by decide), h1 7 (by decide), h1 11 (by decide), h1 12 (by decide)]
  have e2 : ∀ k, sF X k = sF Y k := fun k => by
    unfold sF
    simp only [T_e h4, B_e h5]
    rw [h3 0 k (by decide), h3 3 k (by decide), h3 4 k (by decide), h3 5 k (by decide), h3 8 k (by decide)]
  unfold cW cPl
  rw [e1, show (fun k => (ad k, (Sum.inr (0, sF X k) : va_E))) = (fun k => (ad k, Sum.inr (0, sF Y k))) from funext fun k => by rw [e2 k]]
theorem gI_u (X : St) (j : Nat) (v : Int32) (a : Nat) : gI (uI X j v) a = if a = j then v else gI X a := by
  by_cases p : a = j
  · simp [gI, uI, va_up, p]
  · simp [gI, uI, va_up, p]
theorem Cq_I {X Y : St} (h : Cq X Y) (j : Nat) {v w : Int32} (e : v = w) : Cq (uI X j v) (uI Y j w) := by
  subst e
  exact ⟨fun a ha => by rw [gI_u, gI_u, h.1 a ha], h.2.1, h.2.2.1, h.2.2.2.1, h.2.2.2.2⟩
theorem Cq_L {X Y : St} (h : Cq X Y) (j : Nat) {v w : Int64} (e : v = w) : Cq (uL X j v) (uL Y j w) := by
  subst e
  exact ⟨h.1, by show va_up X.2.1 j v = va_up Y.2.1 j v; rw [h.2.1], h.2.2.1, h.2.2.2.1, h.2.2.2.2⟩
theorem gS_u (X : St) (j k : Nat) (v : Int32) (a i : Nat) : gS (uS X j k v) a i = if a = j then (if i = k then v else gS X j i) else gS X a i := by
  by_cases p : a = j
  · by_cases q : i = k
    · simp [gS, uS, va_up, p, q]
    · simp [gS, uS, va_up, p, q]
  · simp [gS, uS, va_up, p]
theorem Cq_S {X Y : St} (h : Cq X Y) (j k : Nat) {v w : Int32} (e : v = w) (hj : j ≠ 9) : Cq (uS X j k v) (uS Y j k w) := by
  subst e
  refine ⟨h.1, h.2.1, fun a i ha => ?_, h.2.2.2.1, h.2.2.2.2⟩
  rw [gS_u, gS_u, h.2.2.1 j i hj, h.2.2.1 a i ha]
theorem Cq_9 {X Y : St} (h : Cq X Y) (k : Nat) (v : Int32) : Cq X (uS Y 9 k v) := by
  refine ⟨h.1, h.2.1, fun a i ha => ?_, h.2.2.2.1, h.2.2.2.2⟩
  rw [gS_u, if_neg ha, h.2.2.1 a i ha]
theorem Cq_20 {X Y : St} (h : Cq X Y) (v : Int32) : Cq X (uI Y 20 v) := ⟨fun a ha => by rw [gI_u, if_neg ha, h.1 a ha], h.2⟩
theorem Cq_02 {X Y : St} (h : Cq X Y) (v : Int32) : Cq (uI X 20 v) Y := ⟨fun a ha => by rw [gI_u, if_neg ha, h.1 a ha], h.2⟩
theorem gB_u (X : St) (j k : Nat) (v : Bool) (a i : Nat) : gB (uB X j k v) a i = if a = j then (if i = k then v else gB X j i) else gB X a i := by
  by_cases p : a = j
  · by_cases q : i = k
    · simp [gB, uB, va_up, p, q]
    · simp [gB, uB, va_up, p, q]
  · simp [gB, uB, va_up, p]
theorem Cq_B {X Y : St} (h : Cq X Y) (j k : Nat) (v : Bool) : Cq (uB X j k v) (uB Y j k v) := by
  refine ⟨h.1, h.2.1, h.2.2.1, h.2.2.2.1, ?_⟩
  show va_up X.2.2.2.2 j (va_up (X.2.2.2.2 j) k v) = va_up Y.2.2.2.2 j (va_up (Y.2.2.2.2 j) k v)
  rw [h.2.2.2.2]
theorem gT_u (X : St) (j k : Nat) (v : Int64) (a i : Nat) : gT (uT X j k v) a i = if a = j then (if i = k then v else gT X j i) else gT X a i := by
  by_cases p : a = j
  · by_cases q : i = k
    · simp [gT, uT, va_up, p, q]
    · simp [gT, uT, va_up, p, q]
  · simp [gT, uT, va_up, p]
theorem gT_UL (X : St) (j : Nat) (v : Int64) (a i : Nat) : gT (uL X j v) a i = gT X a i := rfl
theorem T_x {X Y : St} (h : ∀ j i, gT X j i = gT Y j i) : X.2.2.2.1 = Y.2.2.2.1 := funext fun j => funext fun i => h j i
theorem Cq_setW {X Y : St} (h : Cq X Y) {k : Nat} {pr : Int32} (h9 : gS Y 9 k = pr) (hz : 1 ≤ (gS X 3 k).toInt) : Cq (cSetW X k pr) (mSetW Y k) := by
  obtain ⟨h1, h2, h3, h4, h5⟩ := h
  have e1 : ¬ gS X 3 k < 1 := by
    rw [Int32.lt_iff_toInt_lt]
    have : (1 : Int32).toInt = 1 := by decide
    omega
  unfold cSetW mSetW
  rw [if_neg e1, h9, h3 3 k (by decide), h3 4 k (by decide), L_e h2 2, L_e h2 5]
  refine ⟨h1, ?_, fun j i hj => h3 j i hj, T_x fun j i => ?_, h5⟩
  · show va_up X.2.1 5 _ = va_up Y.2.1 5 _
    rw [h2]
  · have g1 : ∀ a, gT X a i = gT Y a i := fun a => T_e h4 a i
    simp only [gT_u, gT_UL, g1]
    by_cases p : j = 6
    · subst p
      simp
    · by_cases p7 : j = 7
      · subst p7
        simp
      · simp [p, p7]
theorem mMiss_eq (σ : St) (k : Nat) (pr : Int32) : cRmOwn (uS (cMiss σ pr) 8 k (gI (cMiss σ pr) 1)) k = mMiss σ k pr := by
  have e0 : uS (cMiss σ pr) 8 k (gI (cMiss σ pr) 1) = uL (uI (uS σ 8 k (gI σ 1)) 7 (gI σ 7 + 1)) 10 (gL σ 10 + pr.toInt64) := rfl
  have e1 : mMiss σ k pr = uB (uI (uL (uI (uS σ 8 k (gI σ 1)) 7 (gI σ 7 + 1)) 10 (gL σ 10 + pr.toInt64)) 12 (gI (uL (uI (uS σ 8 k (gI σ 1)) 7 (gI σ 7 + 1)) 10 (gL σ 10 + pr.toInt64)) 12 + (if ovr (uL (uI (uS σ 8 k (gI σ 1)) 7 (gI σ 7 + 1)) 10 (gL σ 10 + pr.toInt64)) k then 1 else 0))) 1 k false := rfl
  rw [e0, e1]
  generalize uL (uI (uS σ 8 k (gI σ 1)) 7 (gI σ 7 + 1)) 10 (gL σ 10 + pr.toInt64) = X
  unfold cRmOwn ovr
  by_cases c : (gB X 1 k && ended X k) = true
  · rw [if_pos c, if_pos c]
  · rw [if_neg c, if_neg c, Int32.add_zero, uI_self]
theorem mMiss_V {n : Nat} {σ : St} (h : V n σ) (k : Nat) (pr : Int32) : V n (mMiss σ k pr) := by
  refine h.of (fun i _ b => ?_) h.2.1 rfl (fun _ => rfl)
  have e : gB (mMiss σ k pr) 1 i = if i = k then false else gB σ 1 i := by
    unfold mMiss
    rw [gB_u]
    rfl
  rw [e] at b
  by_cases q : i = k
  · rw [if_pos q] at b; cases b
  · rw [if_neg q] at b; exact ⟨b, rfl, rfl⟩
theorem setW_V {n : Nat} {σ X : St} {k : Nat} (h : V n σ) (hn : n < 2 ^ 30) (h0 : gI X 3 = gI σ 3) (h1 : gL X 5 = gL σ 5) (h3 : 1 ≤ (gS X 3 k).toInt ∧ (gS X 3 k).toInt ≤ 1000) (h4 : ∀ i, i < 32 → i ≠ k → gB X 1 i = true → gB σ 1 i = true ∧ gS X 3 i = gS σ 3 i ∧ gT X 7 i = gT σ 7 i) (h5 : ∀ i, gS X 0 i = gS σ 0 i) : V (n + 1) (mSetW X k) := by
  refine h.use (k := k) hn h0 ?_ ?_ h3 (fun i hi hne b => ?_) h5
  · show va_up X.2.1 5 (gL X 5 + 1) 5 = _
    simp [va_up, h1]
  · unfold mSetW
    rw [gT_u, if_pos rfl, if_pos rfl, h1]
  · obtain ⟨q1, q2, q3⟩ := h4 i hi hne b
    refine ⟨q1, q2, ?_⟩
    unfold mSetW
    rw [gT_u, if_pos rfl, if_neg hne]
    show gT (uT X 6 k _) 7 i = _
    rw [gT_u, if_neg (by decide)]
    exact q3
theorem rmO_20 (σ : St) : gI (rmO σ) 20 = gI σ 20 := rmO_I σ (by decide)
theorem lvD_20 (b : Int32) (σ : St) : gI (lvD b σ) 20 = gI σ 20 := by
  unfold lvD
  rw [I_I _ (by decide)]
  exact I_e (lvI_aw σ _).1 20
theorem cap_20 {σ : St} {t : Int32} : gI (cSetCap σ t).2 20 = gI σ 20 := by
  unfold cSetCap
  have e : gI (uI σ 3 t) 20 = gI σ 20 := I_I σ (by decide) t
  generalize uI σ 3 t = X at e ⊢
  show gI (if t < used X then (nI (lvE t (rmO X)), lvD t (rmO X)) else (0, X)).2 20 = _
  by_cases c : t < used X
  · rw [if_pos c, ← e]
    show gI (lvD t (rmO X)) 20 = _
    rw [lvD_20, rmO_20]
  · rw [if_neg c]; exact e
theorem room_20 (σ : St) (z : Int32) : gI (cRoom σ z).2 20 = gI σ 20 := by
  unfold cRoom
  by_cases c : cHasRoom σ z = true
  · rw [if_pos c]
  · rw [if_neg c]
    by_cases c2 : gI (rmO σ) 3 - pinA (rmO σ) < z
    · rw [if_pos c2]; exact rmO_20 σ
    · rw [if_neg c2]
      show gI (lvD _ (rmO σ)) 20 = _
      rw [lvD_20, rmO_20]
theorem fetch_ok {n : Nat} {σ : St} {k : Nat} {z pr lf : Int32} (hV : V n σ) (hn : n < 2 ^ 30) (hk : k < 32) (hz : 1 ≤ z.toInt ∧ z.toInt ≤ 1000) : ∃ (N : Nat) (τ : Nat → St), (gI (mRoom0 (mMiss σ k pr) z) 3 < mPin (mRoom0 (mMiss σ k pr) z) true + z ∨ (τ 0 = mRoom0 (mMiss σ k pr) z ∧ mRun (fun s => gI s 3 < used s + z) N τ)) ∧ (cFetch σ k z pr lf).1 = (mFetch σ k z pr lf (τ N)).1 ∧ Cq (cFetch σ k z pr lf).2 (mFetch σ k z pr lf (τ N)).2 ∧ V (n + 1) (mFetch σ k z pr lf (τ N)).2 ∧ gI (mFetch σ k z pr lf (τ N)).2 20 = gI σ 20 := by
  obtain ⟨N, τ, h1, h2, h3⟩ := room_ok (mMiss_V hV k pr) hz
  refine ⟨N, τ, h1, ?_⟩
  have ec : (gB σ 1 k && !ovr σ k && decide (gS σ 3 k = z)) = (gB σ 1 k && !ended σ k && decide (gS σ 3 k = z)) := by
    unfold ovr
    cases gB σ 1 k <;> rfl
  unfold cFetch mFetch
  rw [ec]
  by_cases c : (gB σ 1 k && !ended σ k && decide (gS σ 3 k = z)) = true
  · rw [if_pos c, if_pos c]
    simp only [Bool.and_eq_true, decide_eq_true_eq] at c
    obtain ⟨⟨c1, -⟩, c3⟩ := c
    refine ⟨rfl, ?_, ?_, rfl⟩
    · have g0 : Cq (uS σ 4 k (gS σ 4 k + 1)) (uS (uS σ 4 k (gS σ 4 k + 1)) 9 k pr) := Cq_9 (Cq.rf _) k pr
      have e3 : gS (uS σ 4 k (gS σ 4 k + 1)) 3 k = z := by rw [gS_u, if_neg (by decide), c3]
      have g1 := Cq_setW g0 (k := k) (pr := pr) (by rw [gS_u, if_pos rfl, if_pos rfl]) (by rw [e3]; exact hz.1)
      have e4 : gS (cSetW (uS σ 4 k (gS σ 4 k + 1)) k pr) 3 k = z := e3
      show Cq (cHit σ k pr) (mHit σ k z pr)
      unfold cHit mHit
      generalize cSetW (uS σ 4 k (gS σ 4 k + 1)) k pr = P at g1 e4 ⊢
      generalize mSetW (uS (uS σ 4 k (gS σ 4 k + 1)) 9 k pr) k = R at g1 ⊢
      show Cq (uL (uL (uI P 6 (gI P 6 + 1)) 8 (gL P 8 + (gS P 3 k).toInt64)) 9 (gL P 9 + pr.toInt64)) (uL (uL (uI R 6 (gI R 6 + 1)) 8 (gL R 8 + z.toInt64)) 9 (gL R 9 + pr.toInt64))
      rw [e4]
      exact Cq_L (Cq_L (Cq_I g1 6 (by rw [g1.1 6 (by decide)])) 8 (by rw [L_e g1.2.1 8])) 9 (by rw [L_e g1.2.1 9])
    · have g2 : V (n + 1) (mSetW (uS (uS σ 4 k (gS σ 4 k + 1)) 9 k pr) k) := setW_V hV hn rfl rfl (by rw [gS_u, if_neg (by decide), gS_u, if_neg (by decide), c3]; exact hz) (fun i _ _ b => ⟨b, by rw [gS_u, if_neg (by decide), gS_u, if_neg (by decide)], rfl⟩) (fun i => by rw [gS_u, if_neg (by decide), gS_u, if_neg (by decide)])
      show V (n + 1) (mHit σ k z pr)
      unfold mHit
      generalize mSetW (uS (uS σ 4 k (gS σ 4 k + 1)) 9 k pr) k = R at g2 ⊢
      exact g2.of (fun _ _ b => ⟨b, rfl, rfl⟩) g2.2.1 rfl (fun _ => rfl)
  · rw [if_neg c, if_neg c]
    have el : cLetIn (cMiss σ pr) k z pr lf = if gI (mMiss σ k pr) 3 < z then (false, mMiss σ k pr) else if decide (gI (mMiss σ k pr) 4 < z) && !cLate σ k then (false, mMiss σ k pr) else if (cRoom (mMiss σ k pr) z).1 then (true, cFill (cRoom (mMiss σ k pr) z).2 k z pr lf) else (false, (cRoom (mMiss σ k pr) z).2) := by
      have e9 : cLate (cMiss σ pr) k = cLate σ k := rfl
      unfold cLetIn
      rw [mMiss_eq, e9]
    rw [el]
    have hM := mMiss_V hV k pr
    have eM : gI (mMiss σ k pr) 20 = gI σ 20 := rfl
    generalize mMiss σ k pr = M at h1 h2 h3 hM eM ⊢
    by_cases c1 : gI M 3 < z
    · rw [if_pos c1, if_pos c1]; exact ⟨rfl, Cq.rf _, hM.up (Nat.le_succ n), eM⟩
    · rw [if_neg c1, if_neg c1]
      by_cases c2 : (decide (gI M 4 < z) && !cLate σ k) = true
      · rw [if_pos c2, if_pos c2]; exact ⟨rfl, Cq.rf _, hM.up (Nat.le_succ n), eM⟩
      · rw [if_neg c2, if_neg c2, h2]
        rw [h2] at h3
        have e20 := room_20 M z
        rw [h2] at e20
        by_cases c3 : gI (mRoom0 M z) 3 < mPin (mRoom0 M z) true + z
        · rw [if_pos c3] at h3 e20 ⊢
          rw [if_pos c3]
          exact ⟨rfl, Cq.rf _, h3.up (Nat.le_succ n), e20.trans eM⟩
        · rw [if_neg c3] at h3 e20 ⊢
          rw [if_neg c3]
          have h3 : V n (τ N) := h3
          refine ⟨rfl, ?_, ?_, (show gI (τ N) 20 = _ from e20.trans eM)⟩
          · show Cq (cFill (τ N) k z pr lf) (mFill (τ N) k z pr lf)
            generalize τ N = X
            unfold cFill mFill
            refine Cq_setW (Cq_S (Cq_S (Cq_9 (Cq.rf _) k pr) 4 k rfl (by decide)) 5 k rfl (by decide)) ?_ ?_
            · rw [gS_u, if_neg (by decide), gS_u, if_neg (by decide), gS_u, if_pos rfl, if_pos rfl]
            · rw [gS_u, if_neg (by decide), gS_u, if_neg (by decide), gS_u, if_pos rfl, if_pos rfl]; exact hz.1
          · show V (n + 1) (mFill (τ N) k z pr lf)
            generalize τ N = X at h3 ⊢
            unfold mFill
            refine setW_V h3 hn rfl rfl ?_ (fun i _ hne b => ?_) (fun i => ?_)
            · rw [gS_u, if_neg (by decide), gS_u, if_neg (by decide), gS_u, if_neg (by decide), gS_u, if_pos rfl, if_pos rfl]; exact hz
            · have b : gB (uB (uB X 1 k true) 2 k false) 1 i = true := b
              rw [gB_u, if_neg (by decide), gB_u, if_pos rfl, if_neg hne] at b
              exact ⟨b, by rw [gS_u, if_neg (by decide), gS_u, if_neg (by decide), gS_u, if_neg (by decide), gS_u, if_pos rfl, if_neg hne]; rfl, rfl⟩
            · rw [gS_u, if_neg (by decide), gS_u, if_neg (by decide), gS_u, if_neg (by decide), gS_u, if_neg (by decide)]; rfl
