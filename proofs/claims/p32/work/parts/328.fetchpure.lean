/-! ===== a fetch of the law's own cache is the class's ===== -/
def lFill (X : St) (k : Nat) (z lf : Int32) : St := uB (uS (uS (uB (uS X 3 k z) 1 k true) 4 k 1) 5 k (gI X 1 + lf)) 2 k false
theorem lFill_B (X : St) (k : Nat) (z lf : Int32) (i : Nat) : gB (lFill X k z lf) 1 i = (if i = k then true else gB X 1 i) ∧ gB (lFill X k z lf) 2 i = (if i = k then false else gB X 2 i) := by
  unfold lFill
  refine ⟨?_, ?_⟩
  · rw [gB_up, if_neg (show ¬ (1 : Nat) = 2 by decide)]
    show gB (uB (uS X 3 k z) 1 k true) 1 i = _
    rw [gB_up, if_pos rfl]
    rfl
  · rw [gB_up, if_pos rfl]
    rfl
theorem lFill_S3 (X : St) (k : Nat) (z lf : Int32) : gS (lFill X k z lf) 3 k = z := by
  show gS (uS (uS (uB (uS X 3 k z) 1 k true) 4 k 1) 5 k (gI X 1 + lf)) 3 k = z
  rw [gS_up, if_neg (show ¬ (3 : Nat) = 5 by decide), gS_up, if_neg (show ¬ (3 : Nat) = 4 by decide)]
  show gS (uS X 3 k z) 3 k = z
  rw [gS_up, if_pos rfl, if_pos rfl]
theorem lFill_uF (X : St) (k : Nat) (z lf : Int32) : uF (lFill X k z lf) k = z := by
  unfold uF
  rw [(lFill_B X k z lf k).1, if_pos rfl, if_pos rfl]
  exact lFill_S3 X k z lf
theorem lFill_c (X : St) (k : Nat) (z pr lf : Int32) (hz : 1 ≤ z.toInt) : lSetW (lFill X k z lf) k pr = cFill X k z pr lf := by
  rw [lSetW_eq pr (by rw [(lFill_B X k z lf k).1, if_pos rfl]) (by rw [lFill_S3]; exact hz)]
  rfl
theorem lFill_ok {X : St} {k : Nat} {z pr lf : Int32} {L : List Nat} (h : SR (lSetW (lFill X k z lf) k pr) (fun x => (inO X x && decide (x ≠ k)) || decide (x = k)) L) : SR (lSetW (lFill X k z lf) k pr) (inO (lSetW (lFill X k z lf) k pr)) L := by
  refine sr_cg h (fun i _ => ?_) (fun _ _ _ _ _ _ q => q)
  show ((inO X i && decide (i ≠ k)) || decide (i = k)) = (gB (lFill X k z lf) 1 i && !gB (lFill X k z lf) 2 i)
  rw [(lFill_B X k z lf i).1, (lFill_B X k z lf i).2]
  unfold inO
  by_cases q : i = k
  · simp [q]
  · simp [q]
theorem hit_ok {σ : St} {k : Nat} {pr v : Int32} {L : List Nat} (hb : gB σ 1 k = true) (h2 : gB σ 2 k = false) (h : SR (lSetW (uS σ 4 k v) k pr) (fun x => (inO σ x && decide (x ≠ k)) || decide (x = k)) L) : SR (lSetW (uS σ 4 k v) k pr) (inO (lSetW (uS σ 4 k v) k pr)) L := by
  refine sr_cg h (fun i _ => ?_) (fun _ _ _ _ _ _ q => q)
  show ((inO σ i && decide (i ≠ k)) || decide (i = k)) = (gB σ 1 i && !gB σ 2 i)
  unfold inO
  by_cases q : i = k
  · subst q
    simp [hb, h2]
  · simp [q]
theorem hit_pin {σ : St} {k : Nat} {pr v : Int32} {L : List Nat} (h2 : gB σ 2 k = true) (h : SR (lSetW (uS σ 4 k v) k pr) (fun x => inO σ x && decide (x ≠ k)) L) : SR (lSetW (uS σ 4 k v) k pr) (inO (lSetW (uS σ 4 k v) k pr)) L := by
  refine sr_cg h (fun i _ => ?_) (fun _ _ _ _ _ _ q => q)
  show (inO σ i && decide (i ≠ k)) = (gB σ 1 i && !gB σ 2 i)
  unfold inO
  by_cases q : i = k
  · subst q
    simp [h2]
  · simp [q]
theorem hit_eq {σ : St} {k : Nat} {z pr : Int32} (hb : gB σ 1 k = true) (hs : gS σ 3 k = z) (hz : 1 ≤ z.toInt) : uL (uL (uI (lSetW (uS σ 4 k (gS σ 4 k + 1)) k pr) 6 (gI (lSetW (uS σ 4 k (gS σ 4 k + 1)) k pr) 6 + 1)) 8 (gL (lSetW (uS σ 4 k (gS σ 4 k + 1)) k pr) 8 + z.toInt64)) 9 (gL (lSetW (uS σ 4 k (gS σ 4 k + 1)) k pr) 9 + pr.toInt64) = cHit σ k pr := by
  have e3 : gS (uS σ 4 k (gS σ 4 k + 1)) 3 k = z := by rw [gS_up, if_neg (show ¬ (3 : Nat) = 4 by decide), hs]
  have e4 : gS (cSetW (uS σ 4 k (gS σ 4 k + 1)) k pr) 3 k = z := e3
  rw [lSetW_eq pr (show gB (uS σ 4 k (gS σ 4 k + 1)) 1 k = true from hb) (by rw [e3]; exact hz)]
  unfold cHit
  generalize cSetW (uS σ 4 k (gS σ 4 k + 1)) k pr = P at e4 ⊢
  show _ = uL (uL (uI P 6 (gI P 6 + 1)) 8 (gL P 8 + (gS P 3 k).toInt64)) 9 (gL P 9 + pr.toInt64)
  rw [e4]
theorem miss_eq (σ : St) (k : Nat) (pr : Int32) : uS (uB (uI (uL (uI σ 7 (gI σ 7 + 1)) 10 (gL σ 10 + pr.toInt64)) 12 (gI σ 12 + (if ovr σ k then 1 else 0))) 1 k false) 8 k (gI σ 1) = mMiss σ k pr := by
  have e : ovr (uL (uI (uS σ 8 k (gI σ 1)) 7 (gI σ 7 + 1)) 10 (gL σ 10 + pr.toInt64)) k = ovr σ k := rfl
  have e1 : mMiss σ k pr = uB (uI (uL (uI (uS σ 8 k (gI σ 1)) 7 (gI σ 7 + 1)) 10 (gL σ 10 + pr.toInt64)) 12 (gI σ 12 + (if ovr (uL (uI (uS σ 8 k (gI σ 1)) 7 (gI σ 7 + 1)) 10 (gL σ 10 + pr.toInt64)) k then 1 else 0))) 1 k false := rfl
  rw [e1, e]
  generalize (if ovr σ k then (1 : Int32) else 0) = v
  exact St_x (fun _ => rfl) (fun _ => rfl) (fun _ _ => rfl) (fun _ _ => rfl) (fun _ _ => rfl)
theorem miss_nb (σ : St) (k : Nat) (pr : Int32) : gB (mMiss σ k pr) 1 k = false := by
  unfold mMiss
  rw [gB_up, if_pos rfl, if_pos rfl]
theorem miss_sr {σ : St} {k : Nat} {pr : Int32} {L : List Nat} (h : SR σ (inO σ) L) : SR (mMiss σ k pr) (inO (mMiss σ k pr)) (wo k L) := sr_rm h (fun _ _ => rfl) (fun _ _ => rfl)
theorem lv_nb {σ : St} {k q : Nat} (h : gB σ 1 k = false) : gB (mLv1 σ q) 1 k = false := by
  show gB (uB σ 1 q false) 1 k = false
  rw [gB_up, if_pos rfl]
  by_cases e : k = q
  · rw [if_pos e]
  · rw [if_neg e]; exact h
theorem cf_miss {σ : St} {k : Nat} {z pr lf : Int32} (hh : (gB σ 1 k && !ended σ k && decide (gS σ 3 k = z)) = false) : cFetch σ k z pr lf = (if gI (mMiss σ k pr) 3 < z then (2, mMiss σ k pr) else if decide (gI (mMiss σ k pr) 4 < z) && !cLate σ k then (2, mMiss σ k pr) else if (cRoom (mMiss σ k pr) z).1 then (1, cFill (cRoom (mMiss σ k pr) z).2 k z pr lf) else (2, (cRoom (mMiss σ k pr) z).2)) := by
  have el : cLetIn (cMiss σ pr) k z pr lf = if gI (mMiss σ k pr) 3 < z then (false, mMiss σ k pr) else if decide (gI (mMiss σ k pr) 4 < z) && !cLate σ k then (false, mMiss σ k pr) else if (cRoom (mMiss σ k pr) z).1 then (true, cFill (cRoom (mMiss σ k pr) z).2 k z pr lf) else (false, (cRoom (mMiss σ k pr) z).2) := by
    have e9 : cLate (cMiss σ pr) k = cLate σ k := rfl
    unfold cLetIn
    rw [mMiss_eq, e9]
  unfold cFetch
  rw [if_neg (by rw [hh]; decide), el]
  generalize mMiss σ k pr = M
  by_cases c1 : gI M 3 < z
  · rw [if_pos c1, if_pos c1]
    rfl
  · rw [if_neg c1, if_neg c1]
    by_cases c2 : (decide (gI M 4 < z) && !cLate σ k) = true
    · rw [if_pos c2, if_pos c2]
      rfl
    · rw [if_neg c2, if_neg c2]
      by_cases c3 : (cRoom M z).1 = true
      · rw [if_pos c3, if_pos c3]
        rfl
      · rw [if_neg c3, if_neg c3]
        rfl
theorem cf_hit {σ : St} {k : Nat} {z pr lf : Int32} (h1 : gB σ 1 k = true) (h2 : ended σ k = false) (h3 : gS σ 3 k = z) : cFetch σ k z pr lf = (0, cHit σ k pr) := by
  unfold cFetch
  rw [if_pos (by simp [h1, h2, h3])]
theorem late_1 {σ : St} {k : Nat} (h : gS σ 8 k = -1) : cLate σ k = false := by
  unfold cLate
  rw [decide_eq_true h]
  rfl
theorem late_2 {σ : St} {k : Nat} (h : 50 < gI σ 1 - gS σ 8 k) : cLate σ k = false := by
  unfold cLate
  rw [decide_eq_true h]
  cases decide (gS σ 8 k = -1) <;> rfl
theorem late_t {σ : St} {k : Nat} (h1 : ¬ gS σ 8 k = -1) (h2 : ¬ 50 < gI σ 1 - gS σ 8 k) : cLate σ k = true := by
  unfold cLate
  rw [decide_eq_false h1, decide_eq_false h2]
  rfl
