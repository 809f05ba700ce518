/-! ===== what the class's methods do to a state: in the state's words ===== -/
def inR (x a b : Int32) : Bool := !decide (x < a) && !decide (b < x)
def isT (x : Int32) : Bool := !decide (x < 0) && decide (x < 32)
def sumI (f : Nat → Int32) : Nat → Int32
  | 0 => 0
  | n + 1 => sumI f n + f n
def ended (σ : St) (k : Nat) : Bool := !decide (gI σ 1 < gS σ 5 k)
def inO (σ : St) (k : Nat) : Bool := gB σ 1 k && !gB σ 2 k
def uF (σ : St) (k : Nat) : Int32 := if gB σ 1 k then gS σ 3 k else 0
def pF (σ : St) (k : Nat) : Int32 := if gB σ 1 k && gB σ 2 k && !ended σ k then gS σ 3 k else 0
def nF (σ : St) (k : Nat) : Int32 := if gB σ 1 k && !ended σ k then gS σ 3 k else 0
def eF (σ : St) (k : Nat) : Int32 := if gB σ 1 k then 1 else 0
def used (σ : St) : Int32 := sumI (uF σ) 32
def pinA (σ : St) : Int32 := sumI (pF σ) 32
def notO (σ : St) : Int32 := sumI (nF σ) 32
def ents (σ : St) : Int32 := sumI (eF σ) 32
def rmS (σ : St) : Nat → St
  | 0 => σ
  | n + 1 => if gB (rmS σ n) 1 n && ended (rmS σ n) n then uB (rmS σ n) 1 n false else rmS σ n
def rmC (σ : St) : Nat → Int32
  | 0 => 0
  | n + 1 => if gB (rmS σ n) 1 n && ended (rmS σ n) n then rmC σ n + 1 else rmC σ n
def rmO (σ : St) : St := uI (rmS σ 32) 12 (gI (rmS σ 32) 12 + rmC σ 32)
def bef (σ : St) (i j : Nat) : Bool := decide (gT σ 6 i < gT σ 6 j) || (decide (gT σ 6 i = gT σ 6 j) && decide (gT σ 7 i < gT σ 7 j))
def beh (σ : St) (b : Option Nat) (i : Nat) : Bool := match b with
  | none => true
  | some k => bef σ k i
def befO (σ : St) (i : Nat) (r : Option Nat) : Bool := match r with
  | none => true
  | some m => bef σ i m
def nxtR (σ : St) (b : Option Nat) : Nat → Option Nat
  | 0 => none
  | i + 1 => if inO σ i && beh σ b i && befO σ i (nxtR σ b i) then some i else nxtR σ b i
def nxt (σ : St) (b : Option Nat) : Option Nat := nxtR σ b 32
theorem nxtR_lt (σ : St) (b : Option Nat) : ∀ (i k : Nat), nxtR σ b i = some k → k < i
  | 0, _, h => by cases h
  | i + 1, k, h => by
    unfold nxtR at h
    by_cases c : (inO σ i && beh σ b i && befO σ i (nxtR σ b i)) = true
    · rw [if_pos c] at h
      cases h
      exact Nat.lt_succ_self i
    · rw [if_neg c] at h
      exact Nat.lt_succ_of_lt (nxtR_lt σ b i k h)
theorem nxt_lt {σ : St} {b : Option Nat} {k : Nat} (h : nxt σ b = some k) : k < 32 := nxtR_lt σ b 32 k h
def cSetW (σ : St) (k : Nat) (pr : Int32) : St :=
  uT (uT (uL σ 5 (gL σ 5 + 1)) 7 k (gL σ 5 + 1)) 6 k (if gS σ 3 k < 1 then gL σ 2 else gL σ 2 + 1000 * (gS σ 4 k).toInt64 * pr.toInt64 / (gS σ 3 k).toInt64)
def cHit (σ : St) (k : Nat) (pr : Int32) : St :=
  let a := cSetW (uS σ 4 k (gS σ 4 k + 1)) k pr
  uL (uL (uI a 6 (gI a 6 + 1)) 8 (gL a 8 + (gS a 3 k).toInt64)) 9 (gL a 9 + pr.toInt64)
def cMiss (σ : St) (pr : Int32) : St := uL (uI σ 7 (gI σ 7 + 1)) 10 (gL σ 10 + pr.toInt64)
def cLate (σ : St) (k : Nat) : Bool := !decide (gS σ 8 k = -1) && !decide (50 < gI σ 1 - gS σ 8 k)
def cRmOwn (σ : St) (k : Nat) : St := uB (if gB σ 1 k && ended σ k then uI σ 12 (gI σ 12 + 1) else σ) 1 k false
def lv1 (σ : St) (k : Nat) : St := uL (uB σ 1 k false) 2 (if gT σ 6 k < gL σ 2 then gL σ 2 else gT σ 6 k)
def lvI (σ : St) : Nat → St
  | 0 => σ
  | n + 1 => match nxt (lvI σ n) none with
    | none => lvI σ n
    | some k => lv1 (lvI σ n) k
def lvOk (b : Int32) (σ : St) (j : Nat) : Bool := (nxt (lvI σ j) none).isSome && decide (b < used (lvI σ j))
/-- the first place from j on, at most n on, where p does not hold -/
def stopN (q : Nat → Bool) : Nat → Nat → Nat
  | 0, j => j
  | n + 1, j => if q j then stopN q n (j + 1) else j
theorem stopN_spec (q : Nat → Bool) : ∀ (n j : Nat), j ≤ stopN q n j ∧ stopN q n j ≤ j + n ∧ (∀ i, j ≤ i → i < stopN q n j → q i = true) ∧ (stopN q n j = j + n ∨ q (stopN q n j) = false)
  | 0, j => ⟨Nat.le_refl _, Nat.le_refl _, fun i h1 h2 => absurd h2 (by unfold stopN; omega), Or.inl rfl⟩
  | n + 1, j => by
    unfold stopN
    by_cases h : q j = true
    · rw [if_pos h]
      obtain ⟨h1, h2, h3, h4⟩ := stopN_spec q n (j + 1)
      refine ⟨by omega, by omega, fun i g1 g2 => ?_, ?_⟩
      · rcases Nat.eq_or_lt_of_le g1 with g | g
        · rw [← g]; exact h
        · exact h3 i g g2
      · rcases h4 with h4 | h4
        · exact Or.inl (by omega)
        · exact Or.inr h4
    · rw [if_neg h]
      refine ⟨Nat.le_refl _, by omega, fun i g1 g2 => absurd g2 (by omega), Or.inr ?_⟩
      cases hq : q j with
      | true => exact absurd hq h
      | false => rfl
def lvE (b : Int32) (σ : St) : Nat := stopN (lvOk b σ) 32 0
def lvD (b : Int32) (σ : St) : St := uI (lvI σ (lvE b σ)) 11 (gI (lvI σ (lvE b σ)) 11 + nI (lvE b σ))
def cHasRoom (σ : St) (sz : Int32) : Bool := !decide (gI σ 3 - sz < used σ)
def cRoom (σ : St) (sz : Int32) : Bool × St := if cHasRoom σ sz then (true, σ) else if gI (rmO σ) 3 - pinA (rmO σ) < sz then (false, rmO σ) else (true, lvD (gI (rmO σ) 3 - sz) (rmO σ))
def cFill (σ : St) (k : Nat) (sz pr lf : Int32) : St := cSetW (uS (uS (uS (uB (uB σ 1 k true) 2 k false) 3 k sz) 4 k 1) 5 k (gI σ 1 + lf)) k pr
def cLetIn (σ : St) (k : Nat) (sz pr lf : Int32) : Bool × St :=
  let τ := cRmOwn (uS σ 8 k (gI σ 1)) k
  if gI τ 3 < sz then (false, τ) else if decide (gI τ 4 < sz) && !cLate σ k then (false, τ) else if (cRoom τ sz).1 then (true, cFill (cRoom τ sz).2 k sz pr lf) else (false, (cRoom τ sz).2)
def cFetch (σ : St) (k : Nat) (sz pr lf : Int32) : Int32 × St :=
  if gB σ 1 k && !ended σ k && decide (gS σ 3 k = sz) then (0, cHit σ k pr) else (if (cLetIn (cMiss σ pr) k sz pr lf).1 then 1 else 2, (cLetIn (cMiss σ pr) k sz pr lf).2)
def cSetCap (σ : St) (cp : Int32) : Int32 × St :=
  let τ := uI σ 3 cp
  if cp < used τ then (nI (lvE cp (rmO τ)), lvD cp (rmO τ)) else (0, τ)
def wlI (σ : St) : Nat → Int32 × Int32 × Option Nat
  | 0 => (notO σ, 0, nxt σ none)
  | n + 1 => match (wlI σ n).2.2 with
    | none => wlI σ n
    | some k => (if ended σ k then (wlI σ n).1 else (wlI σ n).1 - gS σ 3 k, if ended σ k then (wlI σ n).2.1 else (wlI σ n).2.1 + 1, nxt σ (some k))
def wlOk (σ : St) (sz : Int32) (j : Nat) : Bool := (wlI σ j).2.2.isSome && decide (gI σ 3 - sz < (wlI σ j).1)
def wlE (σ : St) (sz : Int32) : Nat := stopN (wlOk σ sz) 32 0
def cCount (σ : St) (sz : Int32) : Int32 := (wlI σ (wlE σ sz)).2.1
def cWould (σ : St) (sz : Int32) : Int32 := if gI σ 3 - pinA σ < sz then -1 else cCount σ sz
def endO (σ : St) (i : Nat) (r : Option Nat) : Bool := match r with
  | none => true
  | some m => decide (gS σ 5 i < gS σ 5 m)
def efR (σ : St) : Nat → Option Nat
  | 0 => none
  | i + 1 => if gB σ 1 i && endO σ i (efR σ i) then some i else efR σ i
theorem efR_lt (σ : St) : ∀ (i k : Nat), efR σ i = some k → k < i
  | 0, _, h => by cases h
  | i + 1, k, h => by
    unfold efR at h
    by_cases c : (gB σ 1 i && endO σ i (efR σ i)) = true
    · rw [if_pos c] at h
      cases h
      exact Nat.lt_succ_self i
    · rw [if_neg c] at h
      exact Nat.lt_succ_of_lt (efR_lt σ i k h)
def cEnds (σ : St) : Int32 := match efR σ 32 with
  | none => -1
  | some k => gS σ 0 k
def nth (σ : St) : Nat → Option Nat
  | 0 => nxt σ none
  | n + 1 => match nth σ n with
    | none => none
    | some k => nxt σ (some k)
def placeF (σ : St) (k i : Nat) : Int32 := if inO σ i && bef σ i k then 1 else 0
def cPlace (σ : St) (k : Nat) : Int32 := if inO σ k then sumI (placeF σ k) 32 else -1
