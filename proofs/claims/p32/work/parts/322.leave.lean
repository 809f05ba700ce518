/-! ===== entries leave one after the other: the same run on both sides ===== -/
theorem nxtR_in {σ : St} {b : Option Nat} {k : Nat} : ∀ {n : Nat}, nxtR σ b n = some k → inO σ k = true
  | 0, h => by cases h
  | n + 1, h => by
    rw [nxtR_e] at h
    by_cases c : (inO σ n && beh σ b n && befO σ n (nxtR σ b n)) = true
    · rw [if_pos c] at h
      cases h
      simp only [Bool.and_eq_true] at c
      exact c.1.1
    · rw [if_neg c] at h
      exact nxtR_in (n := n) h
theorem nxt_in {σ : St} {b : Option Nat} {k : Nat} (h : nxt σ b = some k) : inO σ k = true := nxtR_in (n := 32) h
/-- τ is σ with some unpinned entries away, the clock apart -/
def Aw (σ τ : St) : Prop := τ.1 = σ.1 ∧ (∀ j, j ≠ 2 → gL τ j = gL σ j) ∧ τ.2.2.1 = σ.2.2.1 ∧ τ.2.2.2.1 = σ.2.2.2.1 ∧ (∀ j i, j ≠ 1 → gB τ j i = gB σ j i) ∧ (∀ i, gB τ 1 i = true → gB σ 1 i = true) ∧ (∀ i, gB σ 1 i = true → gB σ 2 i = true → gB τ 1 i = true)
theorem Aw.rf (σ : St) : Aw σ σ := ⟨rfl, fun _ _ => rfl, rfl, rfl, fun _ _ _ => rfl, fun _ h => h, fun _ h _ => h⟩
theorem lv1_B1 (τ : St) (k i : Nat) : gB (lv1 τ k) 1 i = if i = k then false else gB τ 1 i := by
  by_cases q : i = k
  · simp [lv1, gB, uL, uB, va_up, q]
  · simp [lv1, gB, uL, uB, va_up, q]
theorem lv1_Bj (τ : St) (k i : Nat) {j : Nat} (hj : j ≠ 1) : gB (lv1 τ k) j i = gB τ j i := by simp [lv1, gB, uL, uB, va_up, hj]
theorem aw_lv1 {σ τ : St} {k : Nat} (h : Aw σ τ) (hk : inO τ k = true) : Aw σ (lv1 τ k) := by
  obtain ⟨h1, h2, h3, h4, h5, h6, h7⟩ := h
  refine ⟨h1, fun j hj => ?_, h3, h4, fun j i hj => by rw [lv1_Bj τ k i hj]; exact h5 j i hj, fun i hb => ?_, fun i b1 b2 => ?_⟩
  · rw [← h2 j hj]
    simp [lv1, gL, uL, uB, va_up, hj]
  · rw [lv1_B1] at hb
    by_cases q : i = k
    · simp [q] at hb
    · rw [if_neg q] at hb; exact h6 i hb
  · rw [lv1_B1]
    by_cases q : i = k
    · subst q
      have := (inO_B hk).2
      rw [h5 2 i (by decide), b2] at this
      cases this
    · rw [if_neg q]; exact h7 i b1 b2
theorem lvI_s (σ : St) (n : Nat) : lvI σ (n + 1) = match nxt (lvI σ n) none with
    | none => lvI σ n
    | some k => lv1 (lvI σ n) k := rfl
theorem lvI_k {σ : St} {n k : Nat} (e : nxt (lvI σ n) none = some k) : lvI σ (n + 1) = lv1 (lvI σ n) k := by rw [lvI_s, e]
theorem lvI_n {σ : St} {n : Nat} (e : nxt (lvI σ n) none = none) : lvI σ (n + 1) = lvI σ n := by rw [lvI_s, e]
theorem lvI_aw (σ : St) (n : Nat) : Aw σ (lvI σ n) := by
  induction n with
  | zero => exact Aw.rf σ
  | succ n ih =>
    generalize e : nxt (lvI σ n) none = o
    cases o with
    | none => rw [lvI_n e]; exact ih
    | some k => rw [lvI_k e]; exact aw_lv1 ih (nxt_in e)
theorem aw_V {n : Nat} {σ τ : St} (h : Aw σ τ) (hV : V n σ) : V n τ := by
  obtain ⟨h1, h2, h3, h4, h5, h6, h7⟩ := h
  exact hV.of (fun k hk b => ⟨h6 k b, S_e h3 3 k, T_e h4 7 k⟩) (by rw [I_e h1 3]; exact hV.2.1) (h2 5 (by decide)) (fun k => S_e h3 0 k)
theorem aw_used {σ τ : St} (h : Aw σ τ) (hov : ∀ i, i < 32 → gB σ 1 i = true → ended σ i = false) (hn : ∀ i, i < 32 → inO τ i = false) : used τ = pinA σ := sumI_c fun i hi => by
  obtain ⟨h1, h2, h3, h4, h5, h6, h7⟩ := h
  unfold uF pF
  have e3 : gS τ 3 i = gS σ 3 i := S_e h3 3 i
  have e2 := h5 2 i (by decide)
  have hni := hn i hi
  unfold inO at hni
  cases hb : gB τ 1 i with
  | true =>
    have g1 := h6 i hb
    rw [hb, e2] at hni
    have g2 : gB σ 2 i = true := by simpa using hni
    rw [g1, g2, hov i hi g1, e3]
    rfl
  | false =>
    cases g1 : gB σ 1 i with
    | false => simp
    | true =>
      cases g2 : gB σ 2 i with
      | false => simp
      | true =>
        have := h7 i g1 g2
        rw [hb] at this; cases this
theorem inO_lv1 (τ : St) (k i : Nat) (h : i ≠ k) : inO (lv1 τ k) i = inO τ i := by
  unfold inO
  rw [lv1_B1, if_neg h, lv1_Bj τ k i (by decide)]
theorem inO_lv0 (τ : St) (k : Nat) : inO (lv1 τ k) k = false := by
  unfold inO
  rw [lv1_B1, if_pos rfl, Bool.false_and]
theorem lvI_cnt {σ : St} : ∀ n, (∀ j, j < n → nxt (lvI σ j) none ≠ none) → cnt (inO (lvI σ n)) 32 + n ≤ 32 := by
  intro n
  induction n with
  | zero =>
    intro _
    rw [Nat.add_zero]
    exact cnt_le (inO (lvI σ 0)) 32
  | succ n ih =>
    intro h
    have h1 := ih (fun j hj => h j (by omega))
    generalize e : nxt (lvI σ n) none = o
    cases o with
    | none => exact absurd e (h n (by omega))
    | some k =>
      have h2 : cnt (inO (lvI σ n)) 32 = cnt (inO (lv1 (lvI σ n) k)) 32 + 1 := cnt_add (k := k) (inO_lv0 _ k) (nxt_in e) (nxt_lt e) (fun i _ hne => (inO_lv1 _ k i hne).symm)
      rw [lvI_k e]
      omega
theorem lvE_ok {n : Nat} {σ : St} {b : Int32} (hV : V n σ) (hov : ∀ i, i < 32 → gB σ 1 i = true → ended σ i = false) (hb : ¬ b < pinA σ) : ¬ b < used (lvI σ (lvE b σ)) ∧ ∀ j, j < lvE b σ → b < used (lvI σ j) ∧ ∃ k, nxt (lvI σ j) none = some k := by
  obtain ⟨h1, h2, h3, h4⟩ := stopN_spec (lvOk b σ) 32 0
  have hall : ∀ j, j < lvE b σ → b < used (lvI σ j) ∧ ∃ k, nxt (lvI σ j) none = some k := by
    intro j hj
    have := h3 j (Nat.zero_le _) hj
    unfold lvOk at this
    simp only [Bool.and_eq_true, decide_eq_true_eq, Option.isSome_iff_exists] at this
    exact ⟨this.2, this.1⟩
  refine ⟨?_, hall⟩
  have key : (∀ i, i < 32 → inO (lvI σ (lvE b σ)) i = false) → ¬ b < used (lvI σ (lvE b σ)) := fun hn => by
    rw [aw_used (lvI_aw σ (lvE b σ)) hov hn]; exact hb
  rcases h4 with h4 | h4
  · have h5 : lvE b σ = 32 := by
      show stopN (lvOk b σ) 32 0 = 32
      omega
    refine key fun i hi => ?_
    have h6 := lvI_cnt (σ := σ) (lvE b σ) (fun j hj q => by obtain ⟨k, hk⟩ := (hall j hj).2; rw [q] at hk; cases hk)
    exact cnt_z (by omega) hi
  · have h5 : lvOk b σ (lvE b σ) = false := h4
    unfold lvOk at h5
    generalize e : nxt (lvI σ (lvE b σ)) none = o at h5
    cases o with
    | none =>
      refine key fun i hi => ?_
      have := nxt_n (aw_V (lvI_aw σ (lvE b σ)) hV).ord e hi
      simpa [beh] using this
    | some k => simpa using h5
theorem uI_uI (σ : St) (j : Nat) (a b : Int32) : uI (uI σ j a) j b = uI σ j b := by
  have e : va_up (va_up σ.1 j a) j b = va_up σ.1 j b := by
    funext x
    by_cases q : x = j <;> simp [va_up, q]
  show (va_up (va_up σ.1 j a) j b, σ.2) = _
  rw [e]
  rfl
theorem uI_self (σ : St) (j : Nat) : uI σ j (gI σ j) = σ := by
  have e : va_up σ.1 j (gI σ j) = σ.1 := by
    funext x
    by_cases q : x = j
    · subst q; simp [va_up, gI]
    · simp [va_up, q]
  show (va_up σ.1 j (gI σ j), σ.2) = σ
  rw [e]
theorem used_uI (σ : St) (j : Nat) (v : Int32) : used (uI σ j v) = used σ := congrArg (fun f => sumI f 32) (funext fun k => rfl)
theorem nxt_uI (σ : St) (j : Nat) (v : Int32) (b : Option Nat) : nxt (uI σ j v) b = nxt σ b := by
  unfold nxt
  generalize 32 = n
  induction n with
  | zero => rfl
  | succ n ih =>
    rw [nxtR_e, nxtR_e, ih]
    have e1 : inO (uI σ j v) n = inO σ n := rfl
    have e2 : beh (uI σ j v) b n = beh σ b n := by cases b <;> rfl
    have e3 : befO (uI σ j v) n (nxtR σ b n) = befO σ n (nxtR σ b n) := by cases nxtR σ b n <;> rfl
    rw [e1, e2, e3]
theorem V_uI {n : Nat} {σ : St} (h : V n σ) {j : Nat} (hj : j ≠ 3) (v : Int32) : V n (uI σ j v) := h.of (fun k _ b => ⟨b, rfl, rfl⟩) (by rw [I_I σ (fun q => hj q.symm)]; exact h.2.1) rfl (fun _ => rfl)
theorem at_0 {σ : St} (h : Ord σ) : atR σ 0 32 = nxt σ none := by
  have := at_nth h (j := 0) (by decide)
  rw [nth_0] at this
  exact this
theorem max_eq (a b : Int64) : (if a < b then b else a) = (if b < a then a else b) := by
  by_cases h1 : a < b
  · have h2 : ¬ b < a := by rw [Int64.lt_iff_toInt_lt] at h1 ⊢; omega
    rw [if_pos h1, if_neg h2]
  · by_cases h2 : b < a
    · rw [if_neg h1, if_pos h2]
    · rw [if_neg h1, if_neg h2]
      apply Int64.toInt_inj.mp
      rw [Int64.lt_iff_toInt_lt] at h1 h2
      omega
def runT (ρ : St) (j : Nat) : St := uI (lvI ρ j) 11 (gI ρ 11 + nI j)
theorem runT_0 (ρ : St) : runT ρ 0 = ρ := by
  have e : gI ρ 11 + nI 0 = gI ρ 11 := Int32.add_zero _
  show uI ρ 11 (gI ρ 11 + nI 0) = ρ
  rw [e, uI_self]
theorem runT_s {ρ : St} {j k : Nat} (e : nxt (lvI ρ j) none = some k) : runT ρ (j + 1) = mLv1 (runT ρ j) k := by
  unfold runT
  rw [lvI_k e]
  generalize lvI ρ j = X
  have e1 : gI (uI X 11 (gI ρ 11 + nI j)) 11 + 1 = gI ρ 11 + nI (j + 1) := by
    have : gI (uI X 11 (gI ρ 11 + nI j)) 11 = gI ρ 11 + nI j := by simp [gI, uI, va_up]
    rw [this, nI_succ, Int32.add_assoc]
  unfold mLv1
  rw [e1]
  show uI (lv1 X k) 11 (gI ρ 11 + nI (j + 1)) = uI (uI (uL (uB X 1 k false) 2 (if gL X 2 < gT X 6 k then gT X 6 k else gL X 2)) 11 (gI ρ 11 + nI j)) 11 (gI ρ 11 + nI (j + 1))
  rw [uI_uI, max_eq]
  rfl
theorem runT_e (b : Int32) (ρ : St) : runT ρ (lvE b ρ) = lvD b ρ := by
  unfold runT lvD
  rw [I_e (lvI_aw ρ (lvE b ρ)).1 11]
theorem runT_V {n : Nat} {ρ : St} (h : V n ρ) (j : Nat) : V n (runT ρ j) := V_uI (aw_V (lvI_aw ρ j) h) (by decide) _
theorem runT_3 (ρ : St) (j : Nat) : gI (runT ρ j) 3 = gI ρ 3 := by
  unfold runT
  rw [I_I _ (by decide)]
  exact I_e (lvI_aw ρ j).1 3
/-- the run of the class's loop is one of the reference's -/
theorem run_ok {n : Nat} {ρ : St} {b : Int32} (hV : V n ρ) (hov : ∀ i, i < 32 → gB ρ 1 i = true → ended ρ i = false) (hb : ¬ b < pinA ρ) : (∀ j, j < lvE b ρ → b < used (runT ρ j) ∧ ∃ k, k < 32 ∧ atR (runT ρ j) 0 32 = some k ∧ runT ρ (j + 1) = mLv1 (runT ρ j) k) ∧ ¬ b < used (runT ρ (lvE b ρ)) := by
  obtain ⟨h1, h2⟩ := lvE_ok hV hov hb
  refine ⟨fun j hj => ?_, by rw [runT, used_uI]; exact h1⟩
  obtain ⟨h3, k, hk⟩ := h2 j hj
  refine ⟨by rw [runT, used_uI]; exact h3, k, nxt_lt hk, ?_, runT_s hk⟩
  rw [at_0 (runT_V hV j).ord, runT, nxt_uI]
  exact hk
theorem mPinT {σ : St} (h : ∀ i, i < 32 → gB σ 1 i = true → ended σ i = false) : mPin σ true = pinA σ := sumI_c fun i hi => by
  unfold mPF pF
  cases hb : gB σ 1 i with
  | false => simp
  | true => simp [h i hi hb]
theorem mPinT_b {σ : St} (h : Sz σ) : 0 ≤ (mPin σ true).toInt ∧ (mPin σ true).toInt ≤ (used σ).toInt := by
  have h1 : ∀ i, i < 32 → 0 ≤ (mPF σ true i).toInt ∧ (mPF σ true i).toInt ≤ (uF σ i).toInt := fun i hi => by
    unfold mPF uF
    by_cases b : gB σ 1 i = true
    · have := h i hi b
      simp only [b, if_true, Bool.true_and, Bool.true_or, Bool.and_true]
      by_cases c : gB σ 2 i = true
      · rw [if_pos c]; omega
      · rw [if_neg c, i0]; omega
    · simp [b]
  exact ⟨(sumI_b (n := 32) (Nat.le_refl _) (fun i hi => ⟨(h1 i hi).1, Int.le_trans (h1 i hi).2 (uF_b h i hi).2⟩)).1, sumI_le (n := 32) (Nat.le_refl _) (fun i hi => ⟨(h1 i hi).1, (h1 i hi).2, (uF_b h i hi).2⟩)⟩
theorem room_ok {n : Nat} {ρ : St} {z : Int32} (hV : V n ρ) (hz : 1 ≤ z.toInt ∧ z.toInt ≤ 1000) : ∃ (N : Nat) (τ : Nat → St), (gI (mRoom0 ρ z) 3 < mPin (mRoom0 ρ z) true + z ∨ (τ 0 = mRoom0 ρ z ∧ mRun (fun s => gI s 3 < used s + z) N τ)) ∧ cRoom ρ z = (if gI (mRoom0 ρ z) 3 < mPin (mRoom0 ρ z) true + z then (false, mRoom0 ρ z) else (true, τ N)) ∧ V n (cRoom ρ z).2 := by
  have hu := used_b hV.1
  have g1 := gt_sub hu hV.2.1 hz
  by_cases hr : gI ρ 3 - z < used ρ
  · have m0 : mRoom0 ρ z = rmO ρ := by unfold mRoom0; rw [if_pos (g1.1.mpr hr)]
    have c0 : cRoom ρ z = if gI (rmO ρ) 3 - pinA (rmO ρ) < z then (false, rmO ρ) else (true, lvD (gI (rmO ρ) 3 - z) (rmO ρ)) := by
      unfold cRoom cHasRoom
      rw [if_neg (by simp [hr])]
    have hW := rmO_V hV
    have hov : ∀ i, i < 32 → gB (rmO ρ) 1 i = true → ended (rmO ρ) i = false := fun i hi h => rmO_no hi h
    have hpt := mPinT hov
    have hpb := pinA_b hW.1
    have hub := used_b hW.1
    have g2 := gt_sub (cp := gI (rmO ρ) 3) (x := pinA (rmO ρ)) ⟨hpb.1, by omega⟩ hW.2.1 hz
    rw [m0, hpt]
    generalize hρ : rmO ρ = X at *
    by_cases hf : gI X 3 < pinA X + z
    · refine ⟨0, fun _ => ρ, Or.inl hf, ?_, ?_⟩
      · rw [c0, if_pos (g2.2.mp hf), if_pos hf]
      · rw [c0, if_pos (g2.2.mp hf)]; exact hW
    · obtain ⟨r1, r2⟩ := run_ok (b := gI X 3 - z) hW hov (fun q => hf (g2.1.mpr q))
      refine ⟨lvE (gI X 3 - z) X, runT X, Or.inr ⟨runT_0 X, fun j hj => ?_, ?_⟩, ?_, ?_⟩
      · obtain ⟨q1, k, q2⟩ := r1 j hj
        refine ⟨?_, k, q2⟩
        show gI (runT X j) 3 < used (runT X j) + z
        rw [runT_3]
        exact (gt_sub (used_b (runT_V hW j).1) hW.2.1 hz).1.mpr q1
      · show ¬ gI (runT X _) 3 < used (runT X _) + z
        rw [runT_3]
        exact fun q => r2 ((gt_sub (used_b (runT_V hW _).1) hW.2.1 hz).1.mp q)
      · rw [c0, if_neg (fun q => hf (g2.2.mpr q)), if_neg hf, runT_e]
      · rw [c0, if_neg (fun q => hf (g2.2.mpr q)), ← runT_e]; exact runT_V hW _
  · have m0 : mRoom0 ρ z = ρ := by unfold mRoom0; rw [if_neg (fun q => hr (g1.1.mp q))]
    have c0 : cRoom ρ z = (true, ρ) := by
      unfold cRoom cHasRoom
      rw [if_pos (by simp [hr])]
    have hpb := mPinT_b hV.1
    have hf : ¬ gI ρ 3 < mPin ρ true + z := fun q => by
      have q2 := g1.1.mp
      have a := hV.2.1
      rw [Int32.lt_iff_toInt_lt, i_add (by omega) (by omega)] at q
      refine hr (q2 ?_)
      rw [Int32.lt_iff_toInt_lt, i_add (by omega) (by omega)]
      omega
    rw [m0]
    refine ⟨0, fun _ => ρ, Or.inr ⟨rfl, fun j hj => absurd hj (Nat.not_lt_zero _), fun q => hr (g1.1.mp q)⟩, ?_, ?_⟩
    · rw [c0, if_neg hf]
    · rw [c0]; exact hV
theorem inR_i {x a b : Int32} (h : inR x a b = true) : a.toInt ≤ x.toInt ∧ x.toInt ≤ b.toInt := by
  simp only [inR, Bool.and_eq_true, Bool.not_eq_true', decide_eq_false_iff_not, Int32.lt_iff_toInt_lt] at h
  omega
theorem cap_ok {n : Nat} {σ : St} {t : Int32} (hV : V n σ) (ht : inR t 1 10000 = true) (hp : ¬ t < pinA σ) : ∃ (N : Nat) (τ : Nat → St), (τ 0 = (if t < used (uI σ 3 t) then rmO (uI σ 3 t) else uI σ 3 t) ∧ mRun (fun s => t < used s) N τ) ∧ cSetCap σ t = (nI N, τ N) ∧ V n (τ N) := by
  have hi := inR_i ht
  have e1 : (1 : Int32).toInt = 1 := by decide
  have e2 : (10000 : Int32).toInt = 10000 := by decide
  rw [e1, e2] at hi
  have hA : V n (uI σ 3 t) := hV.of (fun k _ b => ⟨b, rfl, rfl⟩) (by have : gI (uI σ 3 t) 3 = t := by simp [gI, uI, va_up]
                                                                     rw [this]; exact hi) rfl (fun _ => rfl)
  have hpin : pinA (uI σ 3 t) = pinA σ := congrArg (fun f => sumI f 32) (funext fun k => rfl)
  unfold cSetCap
  generalize uI σ 3 t = X at *
  by_cases hu : t < used X
  · have hW := rmO_V hA
    obtain ⟨r1, r2⟩ := run_ok (b := t) hW (fun i hi h => rmO_no hi h) (by rw [rmO_pin, hpin]; exact hp)
    refine ⟨lvE t (rmO X), runT (rmO X), ⟨by rw [runT_0, if_pos hu], r1, r2⟩, ?_, runT_V hW _⟩
    show (if t < used X then _ else _) = _
    rw [if_pos hu, runT_e]
  · refine ⟨0, fun _ => X, ⟨by rw [if_neg hu], fun j hj => absurd hj (Nat.not_lt_zero _), hu⟩, ?_, hA⟩
    show (if t < used X then _ else _) = _
    rw [if_neg hu]
    rfl
