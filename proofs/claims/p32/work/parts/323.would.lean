/-! ===== what would leave ===== -/
theorem nF_sub (σ : St) (i : Nat) : nF σ i = uF σ i - (if ovr σ i then gS σ 3 i else 0) := by
  unfold nF uF ovr
  cases gB σ 1 i <;> cases ended σ i <;> simp
theorem mSubI_n (σ : St) : ∀ n, n ≤ 32 → mSubI σ n = sumI (fun i => if i < n then nF σ i else uF σ i) 32 := by
  intro n
  induction n with
  | zero => exact fun _ => sumI_c fun i _ => by rw [if_neg (Nat.not_lt_zero i)]
  | succ n ih =>
    intro hn
    rw [mSubI_s, ih (by omega)]
    refine (sumI_up (k := n) ?_ (by omega) (fun i _ hne => ?_)).symm
    · show (if n < n + 1 then nF σ n else uF σ n) = (if n < n then nF σ n else uF σ n) - _
      rw [if_pos (Nat.lt_succ_self n), if_neg (Nat.lt_irrefl n), nF_sub]
    · have e : (i < n + 1) ↔ (i < n) := by omega
      show (if i < n + 1 then nF σ i else uF σ i) = (if i < n then nF σ i else uF σ i)
      simp only [e]
theorem mSubI_32 (σ : St) : mSubI σ 32 = notO σ := by
  rw [mSubI_n σ 32 (Nat.le_refl _)]
  exact sumI_c fun i hi => by rw [if_pos hi]
def gW (σ : St) (n i : Nat) : Int32 := if inO σ i && decide (rank σ i < n) then 0 else nF σ i
theorem ovr_in {σ : St} {k : Nat} (h : inO σ k = true) : ovr σ k = ended σ k := by
  unfold ovr
  rw [(inO_B h).1, Bool.true_and]
theorem nF_in {σ : St} {k : Nat} (h : inO σ k = true) : nF σ k = if ovr σ k then 0 else gS σ 3 k := by
  rw [ovr_in h]
  unfold nF
  rw [(inO_B h).1]
  cases ended σ k <;> rfl
theorem mWl_sum {σ : St} (h : Ord σ) : ∀ n, n < 2 ^ 31 → (mWl σ n).1 = sumI (gW σ n) 32 := by
  intro n
  induction n with
  | zero =>
    intro _
    show mSubI σ 32 = _
    rw [mSubI_32]
    exact sumI_c fun i _ => by unfold gW; simp
  | succ n ih =>
    intro hn
    have ih := ih (by omega)
    rw [mWl_s, at_nth h (by omega)]
    rcases nth_sp h n with ⟨k, e, hk, okk, rk⟩ | ⟨e, hr⟩
    · rw [e]
      show (mWl σ n).1 - (if ovr σ k then 0 else gS σ 3 k) = _
      rw [ih, ← nF_in okk]
      refine (sumI_up (k := k) ?_ hk (fun i hi hne => ?_)).symm
      · unfold gW
        rw [okk, rk]
        simp
      · unfold gW
        cases oi : inO σ i with
        | false => simp
        | true =>
          have e2 : (rank σ i < n + 1) ↔ (rank σ i < n) := by
            have : rank σ i ≠ n := fun q => hne (rank_inj h hi hk oi okk (by omega))
            omega
          simp only [e2]
    · rw [e]
      show (mWl σ n).1 = _
      rw [ih]
      refine sumI_c fun i hi => ?_
      unfold gW
      cases oi : inO σ i with
      | false => simp
      | true =>
        have h1 := hr i hi oi
        have h2 : rank σ i < n + 1 := by omega
        simp [h1, h2]
theorem wlI_k {σ : St} {n k : Nat} (e : (wlI σ n).2.2 = some k) : wlI σ (n + 1) = (if ended σ k then (wlI σ n).1 else (wlI σ n).1 - gS σ 3 k, if ended σ k then (wlI σ n).2.1 else (wlI σ n).2.1 + 1, nxt σ (some k)) := by rw [wlI_s, e]
theorem wlI_n {σ : St} {n : Nat} (e : (wlI σ n).2.2 = none) : wlI σ (n + 1) = wlI σ n := by rw [wlI_s, e]
theorem wlI_eq {σ : St} (h : Ord σ) : ∀ n, n < 2 ^ 31 → wlI σ n = ((mWl σ n).1, (mWl σ n).2, nth σ n) := by
  intro n
  induction n with
  | zero =>
    intro _
    have e : (mWl σ 0).1 = notO σ := mSubI_32 σ
    rw [e, nth_0]
    rfl
  | succ n ih =>
    intro hn
    have ih := ih (by omega)
    rw [mWl_s, at_nth h (by omega)]
    rcases nth_sp h n with ⟨k, e, hk, okk, rk⟩ | ⟨e, hr⟩
    · rw [wlI_k (σ := σ) (n := n) (k := k) (by rw [ih]; exact e), nth_k e, e, ih, ← ovr_in okk]
      generalize nxt σ (some k) = o
      unfold mStep
      by_cases c : ovr σ k = true
      · simp [c]
      · simp [c]
    · rw [wlI_n (σ := σ) (n := n) (by rw [ih]; exact e), nth_n e, e, ih, e]
      rfl
theorem gW_b {σ : St} (h : Sz σ) (n : Nat) : 0 ≤ (sumI (gW σ n) 32).toInt ∧ (sumI (gW σ n) 32).toInt ≤ 32000 :=
  sumI_b (n := 32) (Nat.le_refl _) fun i hi => by
    have h1 := nF_b h i hi
    have h2 := uF_b h i hi
    unfold gW
    by_cases c : (inO σ i && decide (rank σ i < n)) = true
    · rw [if_pos c, i0]; omega
    · rw [if_neg c]; omega
theorem gW_end {σ : St} (h : Ord σ) {n : Nat} (e : nth σ n = none) : sumI (gW σ n) 32 = pinA σ := sumI_c fun i hi => by
  rcases nth_sp h n with ⟨k, e2, _⟩ | ⟨_, hr⟩
  · rw [e] at e2; cases e2
  · unfold gW nF pF
    cases oi : inO σ i with
    | true =>
      have h1 := hr i hi oi
      have h2 := inO_B oi
      simp [h1, h2.1, h2.2]
    | false =>
      unfold inO at oi
      cases hb : gB σ 1 i with
      | false => simp
      | true =>
        have h3 : gB σ 2 i = true := by rw [hb] at oi; simpa using oi
        simp [h3]
theorem would_ok {n : Nat} {σ : St} {t : Int32} (hV : V n σ) (ht : 1 ≤ t.toInt ∧ t.toInt ≤ 1000) : ∃ N, (¬ gI σ 3 < used σ + t ∨ gI σ 3 < mPin σ false + t ∨ ((∀ j, j < N → gI σ 3 < (mWl σ j).1 + t ∧ ∃ k, k < 32 ∧ atR σ (nI j) 32 = some k) ∧ ¬ gI σ 3 < (mWl σ N).1 + t)) ∧ cWould σ t = (if gI σ 3 < used σ + t then (if gI σ 3 < mPin σ false + t then -1 else (mWl σ N).2) else 0) := by
  have ho := hV.ord
  have hub := used_b hV.1
  have hpb := pinA_b hV.1
  have hnb := notO_b hV.1
  have gu := gt_sub hub hV.2.1 ht
  have gp := gt_sub (x := pinA σ) ⟨hpb.1, by omega⟩ hV.2.1 ht
  have gn := gt_sub (x := notO σ) ⟨hnb.1, by omega⟩ hV.2.1 ht
  obtain ⟨s1, s2, s3, s4⟩ := stopN_spec (wlOk σ t) 32 0
  have hE : wlE σ t ≤ 32 := by show stopN (wlOk σ t) 32 0 ≤ 32; omega
  have hc : cCount σ t = (mWl σ (wlE σ t)).2 := by
    unfold cCount
    rw [wlI_eq ho _ (by omega)]
  rw [mPinF]
  by_cases hu : gI σ 3 < used σ + t
  · by_cases hp : gI σ 3 < pinA σ + t
    · refine ⟨0, Or.inr (Or.inl hp), ?_⟩
      unfold cWould
      rw [if_pos (gp.2.mp hp), if_pos hu, if_pos hp]
    · refine ⟨wlE σ t, Or.inr (Or.inr ⟨fun j hj => ?_, ?_⟩), ?_⟩
      · have h1 := s3 j (Nat.zero_le _) hj
        unfold wlOk at h1
        rw [wlI_eq ho j (by omega)] at h1
        simp only [Bool.and_eq_true, decide_eq_true_eq, Option.isSome_iff_exists] at h1
        obtain ⟨⟨k, hk⟩, h2⟩ := h1
        rw [mWl_sum ho j (by omega)] at h2 ⊢
        exact ⟨(gt_sub (gW_b hV.1 j) hV.2.1 ht).1.mpr h2, k, nth_lt hk, by rw [at_nth ho (by omega)]; exact hk⟩
      · have key : nth σ (wlE σ t) = none → ¬ gI σ 3 < (mWl σ (wlE σ t)).1 + t := fun e => by
          rw [mWl_sum ho _ (by omega), gW_end ho e]; exact hp
        rcases s4 with s4 | s4
        · have h5 : wlE σ t = 32 := by
            show stopN (wlOk σ t) 32 0 = 32
            omega
          exact key (by rw [h5]; exact nth_32 ho (Nat.le_refl _))
        · have h5 : wlOk σ t (wlE σ t) = false := s4
          unfold wlOk at h5
          rw [wlI_eq ho _ (by omega)] at h5
          cases e : nth σ (wlE σ t) with
          | none => exact key e
          | some k =>
            have h6 : ¬ gI σ 3 - t < (mWl σ (wlE σ t)).1 := by simpa [e] using h5
            rw [mWl_sum ho _ (by omega)] at h6 ⊢
            exact fun q => h6 ((gt_sub (gW_b hV.1 _) hV.2.1 ht).1.mp q)
      · unfold cWould
        rw [if_neg (fun q => hp (gp.2.mpr q)), if_pos hu, if_neg hp, hc]
  · have hnp : ¬ gI σ 3 < pinA σ + t := by
      rw [Int32.lt_iff_toInt_lt, i_add (by omega) (by omega)] at hu ⊢
      omega
    have hnn : ¬ gI σ 3 - t < notO σ := fun q => by
      have q := gn.1.mpr q
      rw [Int32.lt_iff_toInt_lt, i_add (by omega) (by omega)] at hu q
      omega
    refine ⟨0, Or.inl hu, ?_⟩
    unfold cWould
    rw [if_neg (fun q => hnp (gp.2.mpr q)), if_neg hu]
    have h0 : wlOk σ t 0 = false := by
      have e : (wlI σ 0).1 = notO σ := rfl
      unfold wlOk
      rw [e]
      simp [hnn]
    have h1 : wlE σ t = 0 := by
      unfold wlE stopN
      rw [h0]
      rfl
    rw [hc, h1]
    rfl
