/-! ===== what the reference's methods do to a state ===== -/
def oI (r : Option Nat) : Int32 := match r with
  | none => -1
  | some k => nI k
def ovr (σ : St) (k : Nat) : Bool := gB σ 1 k && ended σ k
def mPl (σ : St) (k i : Nat) : Int32 := if gB σ 1 i && !gB σ 2 i && !decide (nI i = nI k) && bef σ i k then 1 else 0
def mPlace (σ : St) (k : Nat) : Int32 := if gB σ 1 k && !gB σ 2 k then sumI (mPl σ k) 32 else -1
def atR (σ : St) (q : Int32) : Nat → Option Nat
  | 0 => none
  | n + 1 => match atR σ q n with
    | some k => some k
    | none => if mPlace σ n = q then some n else none
theorem atR_lt {σ : St} {q : Int32} {k : Nat} : ∀ {n : Nat}, atR σ q n = some k → k < n
  | 0, h => by cases h
  | n + 1, h => by
    unfold atR at h
    cases hc : atR σ q n with
    | none =>
      rw [hc] at h
      by_cases c : mPlace σ n = q
      · simp [c] at h
        omega
      · simp [c] at h
    | some j =>
      rw [hc] at h
      have h1 : some j = some k := h
      cases h1
      exact Nat.lt_succ_of_lt (atR_lt hc)
theorem atR_s (σ : St) (q : Int32) (n : Nat) : atR σ q (n + 1) = match atR σ q n with
    | some k => some k
    | none => if mPlace σ n = q then some n else none := rfl
theorem atR_none {σ : St} {q : Int32} {i : Nat} (h : atR σ q i = none) (c : ¬ mPlace σ i = q) : atR σ q (i + 1) = none := by
  rw [atR_s, h]
  simp [c]
theorem atR_some {σ : St} {q : Int32} {i : Nat} (h : atR σ q i = none) (c : mPlace σ i = q) : ∀ {n : Nat}, i < n → atR σ q n = some i
  | 0, h9 => absurd h9 (Nat.not_lt_zero _)
  | n + 1, h9 => by
    rw [atR_s]
    rcases Nat.lt_or_ge i n with q9 | q9
    · rw [atR_some h c q9]
    · have e : i = n := by omega
      subst e
      rw [h]
      simp [c]
def mLv1 (σ : St) (k : Nat) : St := uI (uL (uB σ 1 k false) 2 (if gL σ 2 < gT σ 6 k then gT σ 6 k else gL σ 2)) 11 (gI σ 11 + 1)
def mSetW (σ : St) (k : Nat) : St :=
  uT (uL (uT σ 6 k (gL σ 2 + 1000 * (gS σ 4 k).toInt64 * (gS σ 9 k).toInt64 / (gS σ 3 k).toInt64)) 5 (gL σ 5 + 1)) 7 k (gL σ 5 + 1)
def mPF (σ : St) (b : Bool) (i : Nat) : Int32 := if gB σ 1 i && gB σ 2 i && (b || !ovr σ i) then gS σ 3 i else 0
def mPin (σ : St) (b : Bool) : Int32 := sumI (mPF σ b) 32
/-- N rounds of a loop in which the first entry leaves: c holds before each, and not behind the last -/
def mRun (c : St → Prop) (N : Nat) (τ : Nat → St) : Prop := (∀ j, j < N → c (τ j) ∧ ∃ k, k < 32 ∧ atR (τ j) 0 32 = some k ∧ τ (j + 1) = mLv1 (τ j) k) ∧ ¬ c (τ N)
def mRoom0 (σ : St) (z : Int32) : St := if gI σ 3 < used σ + z then rmO σ else σ
def mSubI (σ : St) : Nat → Int32
  | 0 => used σ
  | n + 1 => mSubI σ n - (if ovr σ n then gS σ 3 n else 0)
def mStep (σ : St) (o : Option Nat) (b : Int32 × Int32) : Int32 × Int32 := match o with
  | none => b
  | some k => (b.1 - (if ovr σ k then 0 else gS σ 3 k), b.2 + (if ovr σ k then 0 else 1))
def mWl (σ : St) : Nat → Int32 × Int32
  | 0 => (mSubI σ 32, 0)
  | n + 1 => mStep σ (atR σ (nI n) 32) (mWl σ n)
def mHit (σ : St) (k : Nat) (z pr : Int32) : St :=
  let a := mSetW (uS (uS σ 4 k (gS σ 4 k + 1)) 9 k pr) k
  uL (uL (uI a 6 (gI a 6 + 1)) 8 (gL a 8 + z.toInt64)) 9 (gL a 9 + pr.toInt64)
def mMiss (σ : St) (k : Nat) (pr : Int32) : St :=
  let a := uL (uI (uS σ 8 k (gI σ 1)) 7 (gI σ 7 + 1)) 10 (gL σ 10 + pr.toInt64)
  uB (uI a 12 (gI σ 12 + (if ovr a k then 1 else 0))) 1 k false
def mFill (σ : St) (k : Nat) (z pr lf : Int32) : St := mSetW (uS (uS (uS (uS (uB (uB σ 1 k true) 2 k false) 3 k z) 9 k pr) 4 k 1) 5 k (gI σ 1 + lf)) k
def mEnd (σ : St) (i : Nat) (r : Int32) : Bool := decide (r = -1)
def efM (σ : St) : Nat → Option Nat
  | 0 => none
  | i + 1 => if gB σ 1 i && endO σ i (efM σ i) then some i else efM σ i
theorem oI_neg {r : Option Nat} (h : ∀ k, r = some k → k < 32) : oI r = -1 ↔ r = none := by
  cases r with
  | none => exact ⟨fun _ => rfl, fun _ => rfl⟩
  | some k =>
    refine ⟨fun q => ?_, fun q => by cases q⟩
    have h1 : nI k = -1 := q
    have h2 : (nI k).toInt = (-1 : Int32).toInt := by rw [h1]
    rw [nI_toInt (Nat.lt_trans (h k rfl) (by decide))] at h2
    have h3 : (-1 : Int32).toInt = -1 := by decide
    omega
theorem isT_in (t : Int32) : isT t = inR t 0 31 := by
  unfold isT inR
  by_cases h : t < 32
  · have h1 : ¬ (31 : Int32) < t := by
      rw [Int32.lt_iff_toInt_lt] at h ⊢
      have e1 : (32 : Int32).toInt = 32 := by decide
      have e2 : (31 : Int32).toInt = 31 := by decide
      omega
    simp [h, h1]
  · have h1 : (31 : Int32) < t := by
      rw [Int32.lt_iff_toInt_lt] at h ⊢
      have e1 : (32 : Int32).toInt = 32 := by decide
      have e2 : (31 : Int32).toInt = 31 := by decide
      omega
    simp [h, h1]
theorem rmS_s (σ : St) (n : Nat) : rmS σ (n + 1) = if gB (rmS σ n) 1 n && ended (rmS σ n) n then uB (rmS σ n) 1 n false else rmS σ n := rfl
theorem rmC_s (σ : St) (n : Nat) : rmC σ (n + 1) = if gB (rmS σ n) 1 n && ended (rmS σ n) n then rmC σ n + 1 else rmC σ n := rfl
theorem isT_ff {t : Int32} (h : isT t = false) {j : Nat} (hj : j < 32) (e : t = nI j) : False := by
  rw [e, isT_of hj] at h
  cases h
def mCap0 (σ : St) (t : Int32) : St := if t < used (uI (uI σ 20 0) 3 t) then rmO (uI (uI σ 20 0) 3 t) else uI (uI σ 20 0) 3 t
theorem mSubI_s (σ : St) (n : Nat) : mSubI σ (n + 1) = mSubI σ n - (if ovr σ n then gS σ 3 n else 0) := rfl
theorem mWl_s (σ : St) (n : Nat) : mWl σ (n + 1) = mStep σ (atR σ (nI n) 32) (mWl σ n) := rfl
def mFetch (σ : St) (k : Nat) (z pr lf : Int32) (X : St) : Int32 × St :=
  if gB σ 1 k && !ovr σ k && decide (gS σ 3 k = z) then (0, mHit σ k z pr) else
  if gI (mMiss σ k pr) 3 < z then (2, mMiss σ k pr) else if decide (gI (mMiss σ k pr) 4 < z) && !cLate σ k then (2, mMiss σ k pr) else
  if gI (mRoom0 (mMiss σ k pr) z) 3 < mPin (mRoom0 (mMiss σ k pr) z) true + z then (2, mRoom0 (mMiss σ k pr) z) else (1, mFill X k z pr lf)
theorem inR_ne0 {x b : Int32} (h : inR x 1 b = true) : ¬ x = 0 := by
  intro q
  subst q
  simp [inR] at h
