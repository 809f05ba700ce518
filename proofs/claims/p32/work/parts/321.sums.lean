/-! ===== sums that do not overflow ===== -/
theorem i_add {a b : Int32} (h1 : -2147483648 ≤ a.toInt + b.toInt) (h2 : a.toInt + b.toInt < 2147483648) : (a + b).toInt = a.toInt + b.toInt := by
  rw [Int32.toInt_add]
  exact Int.bmod_eq_of_le (by omega) (by omega)
theorem i_sub {a b : Int32} (h1 : -2147483648 ≤ a.toInt - b.toInt) (h2 : a.toInt - b.toInt < 2147483648) : (a - b).toInt = a.toInt - b.toInt := by
  rw [Int32.toInt_sub]
  exact Int.bmod_eq_of_le (by omega) (by omega)
theorem l_add {a b : Int64} (h1 : -9223372036854775808 ≤ a.toInt + b.toInt) (h2 : a.toInt + b.toInt < 9223372036854775808) : (a + b).toInt = a.toInt + b.toInt := by
  rw [Int64.toInt_add]
  exact Int.bmod_eq_of_le (by omega) (by omega)
theorem i0 : (0 : Int32).toInt = 0 := by decide
theorem sumI_b {f : Nat → Int32} : ∀ {n : Nat}, n ≤ 32 → (∀ i, i < n → 0 ≤ (f i).toInt ∧ (f i).toInt ≤ 1000) → 0 ≤ (sumI f n).toInt ∧ (sumI f n).toInt ≤ 1000 * (n : Int)
  | 0, _, _ => by
    show 0 ≤ (0 : Int32).toInt ∧ (0 : Int32).toInt ≤ _
    rw [i0]; omega
  | n + 1, hn, h => by
    have h1 := sumI_b (n := n) (by omega) (fun i hi => h i (by omega))
    have h2 := h n (by omega)
    rw [sumI_s, i_add (by omega) (by omega)]
    omega
theorem sumI_le {f g : Nat → Int32} : ∀ {n : Nat}, n ≤ 32 → (∀ i, i < n → 0 ≤ (f i).toInt ∧ (f i).toInt ≤ (g i).toInt ∧ (g i).toInt ≤ 1000) → (sumI f n).toInt ≤ (sumI g n).toInt
  | 0, _, _ => Int.le_refl _
  | n + 1, hn, h => by
    have h1 := sumI_le (n := n) (by omega) (fun i hi => h i (by omega))
    have h2 := h n (by omega)
    have h3 := sumI_b (f := f) (n := n) (by omega) (fun i hi => by have := h i (by omega); omega)
    have h4 := sumI_b (f := g) (n := n) (by omega) (fun i hi => by have := h i (by omega); omega)
    rw [sumI_s, sumI_s, i_add (by omega) (by omega), i_add (by omega) (by omega)]
    omega
theorem sumI_up {f g : Nat → Int32} {k : Nat} {d : Int32} (hk : g k = f k - d) : ∀ {n : Nat}, k < n → (∀ i, i < n → i ≠ k → g i = f i) → sumI g n = sumI f n - d
  | 0, h, _ => absurd h (Nat.not_lt_zero _)
  | n + 1, h, h2 => by
    rw [sumI_s, sumI_s]
    by_cases e : k = n
    · subst e
      rw [sumI_c (f := g) (g := f) (n := k) (fun i hi => h2 i (by omega) (by omega)), hk, Int32.sub_eq_add_neg, Int32.sub_eq_add_neg, Int32.add_assoc]
    · rw [sumI_up hk (n := n) (by omega) (fun i hi => h2 i (by omega)), h2 n (by omega) (fun q => e q.symm), Int32.sub_eq_add_neg, Int32.sub_eq_add_neg, Int32.add_assoc, Int32.add_assoc, Int32.add_comm (-d)]
/-! ===== the invariant of every run ===== -/
def V (n : Nat) (σ : St) : Prop := (∀ k, k < 32 → gB σ 1 k = true → 1 ≤ (gS σ 3 k).toInt ∧ (gS σ 3 k).toInt ≤ 1000) ∧ (1 ≤ (gI σ 3).toInt ∧ (gI σ 3).toInt ≤ 10000) ∧ (∀ k, k < 32 → gB σ 1 k = true → (gT σ 7 k).toInt ≤ (gL σ 5).toInt) ∧ (0 ≤ (gL σ 5).toInt ∧ (gL σ 5).toInt ≤ (n : Int)) ∧ (∀ i j, i < 32 → j < 32 → gB σ 1 i = true → gB σ 1 j = true → i ≠ j → gT σ 7 i ≠ gT σ 7 j) ∧ (∀ k, k < 32 → gS σ 0 k = nI k)
theorem inO_B {σ : St} {k : Nat} (h : inO σ k = true) : gB σ 1 k = true ∧ gB σ 2 k = false := by
  simpa [inO] using h
theorem V.ord {n : Nat} {σ : St} (h : V n σ) : Ord σ := fun i j hi hj oi oj e => h.2.2.2.2.1 i j hi hj (inO_B oi).1 (inO_B oj).1 e
theorem V.of {n : Nat} {σ τ : St} (h : V n σ) (h1 : ∀ k, k < 32 → gB τ 1 k = true → gB σ 1 k = true ∧ gS τ 3 k = gS σ 3 k ∧ gT τ 7 k = gT σ 7 k) (h2 : 1 ≤ (gI τ 3).toInt ∧ (gI τ 3).toInt ≤ 10000) (h3 : gL τ 5 = gL σ 5) (h4 : ∀ k, gS τ 0 k = gS σ 0 k) : V n τ := by
  obtain ⟨a1, a2, a3, a4, a5, a6⟩ := h
  refine ⟨fun k hk b => ?_, h2, fun k hk b => ?_, by rw [h3]; exact a4, fun i j hi hj bi bj e => ?_, fun k hk => by rw [h4]; exact a6 k hk⟩
  · obtain ⟨q1, q2, q3⟩ := h1 k hk b
    rw [q2]; exact a1 k hk q1
  · obtain ⟨q1, q2, q3⟩ := h1 k hk b
    rw [q3, h3]; exact a3 k hk q1
  · obtain ⟨q1, q2, q3⟩ := h1 i hi bi
    obtain ⟨p1, p2, p3⟩ := h1 j hj bj
    rw [q3, p3]; exact a5 i j hi hj q1 p1 e
theorem V.up {n m : Nat} {σ : St} (h : V n σ) (hm : n ≤ m) : V m σ := ⟨h.1, h.2.1, h.2.2.1, ⟨h.2.2.2.1.1, by have := h.2.2.2.1.2; omega⟩, h.2.2.2.2⟩
theorem V.use {n : Nat} {σ τ : St} {k : Nat} (h : V n σ) (hn : n < 2 ^ 30) (h0 : gI τ 3 = gI σ 3) (h1 : gL τ 5 = gL σ 5 + 1) (h2 : gT τ 7 k = gL σ 5 + 1) (h3 : 1 ≤ (gS τ 3 k).toInt ∧ (gS τ 3 k).toInt ≤ 1000) (h4 : ∀ i, i < 32 → i ≠ k → gB τ 1 i = true → gB σ 1 i = true ∧ gS τ 3 i = gS σ 3 i ∧ gT τ 7 i = gT σ 7 i) (h5 : ∀ i, gS τ 0 i = gS σ 0 i) : V (n + 1) τ := by
  obtain ⟨a1, a2, a3, a4, a5, a6⟩ := h
  have e1 : (gL σ 5 + 1).toInt = (gL σ 5).toInt + 1 := by
    rw [l_add (by have : (1 : Int64).toInt = 1 := by decide
                  omega) (by have : (1 : Int64).toInt = 1 := by decide
                             omega)]
    rfl
  refine ⟨fun i hi b => ?_, by rw [h0]; exact a2, fun i hi b => ?_, by rw [h1, e1]; omega, fun i j hi hj bi bj e => ?_, fun i hi => by rw [h5]; exact a6 i hi⟩
  · by_cases q : i = k
    · subst q; exact h3
    · obtain ⟨q1, q2, q3⟩ := h4 i hi q b
      rw [q2]; exact a1 i hi q1
  · by_cases q : i = k
    · subst q; rw [h2, h1]; exact Int.le_refl _
    · obtain ⟨q1, q2, q3⟩ := h4 i hi q b
      have := a3 i hi q1
      rw [q3, h1, e1]; omega
  · by_cases q : i = k
    · subst q
      obtain ⟨q1, q2, q3⟩ := h4 j hj (fun z => e z.symm) bj
      have := a3 j hj q1
      rw [h2, q3]
      intro z
      have z2 : (gL σ 5 + 1).toInt = (gT σ 7 j).toInt := by rw [z]
      omega
    · obtain ⟨q1, q2, q3⟩ := h4 i hi q bi
      by_cases g : j = k
      · subst g
        have := a3 i hi q1
        rw [h2, q3]
        intro z
        have z2 : (gT σ 7 i).toInt = (gL σ 5 + 1).toInt := by rw [z]
        omega
      · obtain ⟨p1, p2, p3⟩ := h4 j hj g bj
        rw [q3, p3]; exact a5 i j hi hj q1 p1 e
/-- entries' sizes -/
def Sz (σ : St) : Prop := ∀ k, k < 32 → gB σ 1 k = true → 1 ≤ (gS σ 3 k).toInt ∧ (gS σ 3 k).toInt ≤ 1000
theorem uF_b {σ : St} (h : Sz σ) (i : Nat) (hi : i < 32) : 0 ≤ (uF σ i).toInt ∧ (uF σ i).toInt ≤ 1000 := by
  unfold uF
  by_cases b : gB σ 1 i = true
  · rw [if_pos b]; have := h i hi b; omega
  · rw [if_neg b, i0]; omega
theorem used_b {σ : St} (h : Sz σ) : 0 ≤ (used σ).toInt ∧ (used σ).toInt ≤ 32000 := sumI_b (n := 32) (Nat.le_refl _) (uF_b h)
theorem pF_b {σ : St} (h : Sz σ) (i : Nat) (hi : i < 32) : 0 ≤ (pF σ i).toInt ∧ (pF σ i).toInt ≤ (uF σ i).toInt := by
  unfold pF uF
  by_cases b : gB σ 1 i = true
  · have := h i hi b
    simp only [b, if_true, Bool.true_and]
    by_cases c : (gB σ 2 i && !ended σ i) = true
    · rw [if_pos c]; omega
    · rw [if_neg c, i0]; omega
  · simp [b]
theorem pinA_b {σ : St} (h : Sz σ) : 0 ≤ (pinA σ).toInt ∧ (pinA σ).toInt ≤ (used σ).toInt :=
  ⟨(sumI_b (n := 32) (Nat.le_refl _) (fun i hi => ⟨(pF_b h i hi).1, Int.le_trans (pF_b h i hi).2 (uF_b h i hi).2⟩)).1, sumI_le (n := 32) (Nat.le_refl _) (fun i hi => ⟨(pF_b h i hi).1, (pF_b h i hi).2, (uF_b h i hi).2⟩)⟩
theorem nF_b {σ : St} (h : Sz σ) (i : Nat) (hi : i < 32) : 0 ≤ (nF σ i).toInt ∧ (nF σ i).toInt ≤ (uF σ i).toInt := by
  unfold nF uF
  by_cases b : gB σ 1 i = true
  · have := h i hi b
    simp only [b, if_true, Bool.true_and]
    by_cases c : (!ended σ i) = true
    · rw [if_pos c]; omega
    · rw [if_neg c, i0]; omega
  · simp [b]
theorem notO_b {σ : St} (h : Sz σ) : 0 ≤ (notO σ).toInt ∧ (notO σ).toInt ≤ (used σ).toInt :=
  ⟨(sumI_b (n := 32) (Nat.le_refl _) (fun i hi => ⟨(nF_b h i hi).1, Int.le_trans (nF_b h i hi).2 (uF_b h i hi).2⟩)).1, sumI_le (n := 32) (Nat.le_refl _) (fun i hi => ⟨(nF_b h i hi).1, (nF_b h i hi).2, (uF_b h i hi).2⟩)⟩
theorem mPinF {σ : St} : mPin σ false = pinA σ := sumI_c fun i _ => by
  unfold mPF pF ovr
  cases gB σ 1 i <;> cases gB σ 2 i <;> cases ended σ i <;> rfl
/-- with b bytes taken: two ways to ask whether z more are too many -/
theorem gt_sub {cp x z : Int32} (h1 : 0 ≤ x.toInt ∧ x.toInt ≤ 32000) (h2 : 1 ≤ cp.toInt ∧ cp.toInt ≤ 10000) (h3 : 1 ≤ z.toInt ∧ z.toInt ≤ 1000) : (cp < x + z ↔ cp - z < x) ∧ (cp < x + z ↔ cp - x < z) := by
  rw [Int32.lt_iff_toInt_lt, Int32.lt_iff_toInt_lt, Int32.lt_iff_toInt_lt, i_add (by omega) (by omega), i_sub (by omega) (by omega), i_sub (by omega) (by omega)]
  omega
/-! ===== what is over is removed ===== -/
theorem rmS_f (σ : St) : ∀ n, (rmS σ n).1 = σ.1 ∧ (rmS σ n).2.1 = σ.2.1 ∧ (rmS σ n).2.2.1 = σ.2.2.1 ∧ (rmS σ n).2.2.2.1 = σ.2.2.2.1 ∧ (∀ j i, j ≠ 1 → gB (rmS σ n) j i = gB σ j i) ∧ (∀ i, gB (rmS σ n) 1 i = (gB σ 1 i && !(decide (i < n) && ended σ i)))
  | 0 => ⟨rfl, rfl, rfl, rfl, fun _ _ _ => rfl, fun i => by simp [rmS]⟩
  | n + 1 => by
    obtain ⟨h1, h2, h3, h4, h5, h6⟩ := rmS_f σ n
    have he : ended (rmS σ n) n = ended σ n := by
      unfold ended gI gS
      rw [h1, h3]
    have hb : gB (rmS σ n) 1 n = gB σ 1 n := by rw [h6]; simp
    rw [rmS_s, he, hb]
    by_cases c : (gB σ 1 n && ended σ n) = true
    · rw [if_pos c]
      simp only [Bool.and_eq_true] at c
      refine ⟨h1, h2, h3, h4, fun j i hj => ?_, fun i => ?_⟩
      · rw [← h5 j i hj]
        simp [gB, uB, va_up, hj]
      · by_cases q : i = n
        · subst q
          simp [gB, uB, va_up, c.2]
        · have e1 : gB (uB (rmS σ n) 1 n false) 1 i = gB (rmS σ n) 1 i := by simp [gB, uB, va_up, q]
          have e2 : (i < n + 1) ↔ (i < n) := by omega
          rw [e1, h6]
          simp [e2]
    · rw [if_neg c]
      refine ⟨h1, h2, h3, h4, h5, fun i => ?_⟩
      rw [h6]
      by_cases q : i = n
      · subst q
        cases hb1 : gB σ 1 i with
        | false => rfl
        | true =>
          rw [hb1] at c
          simp only [Bool.true_and, Bool.not_eq_true] at c
          simp [c]
      · have e2 : (i < n + 1) ↔ (i < n) := by omega
        simp [e2]
theorem B_I (X : St) (j : Nat) (v : Int32) (a i : Nat) : gB (uI X j v) a i = gB X a i := rfl
theorem S_I (X : St) (j : Nat) (v : Int32) (a i : Nat) : gS (uI X j v) a i = gS X a i := rfl
theorem T_I (X : St) (j : Nat) (v : Int32) (a i : Nat) : gT (uI X j v) a i = gT X a i := rfl
theorem L_I (X : St) (j : Nat) (v : Int32) (a : Nat) : gL (uI X j v) a = gL X a := rfl
theorem I_I (X : St) {j a : Nat} (h : a ≠ j) (v : Int32) : gI (uI X j v) a = gI X a := by simp [gI, uI, va_up, h]
theorem S_e {X Y : St} (h : X.2.2.1 = Y.2.2.1) (j i : Nat) : gS X j i = gS Y j i := by unfold gS; rw [h]
theorem T_e {X Y : St} (h : X.2.2.2.1 = Y.2.2.2.1) (j i : Nat) : gT X j i = gT Y j i := by unfold gT; rw [h]
theorem L_e {X Y : St} (h : X.2.1 = Y.2.1) (j : Nat) : gL X j = gL Y j := by unfold gL; rw [h]
theorem I_e {X Y : St} (h : X.1 = Y.1) (j : Nat) : gI X j = gI Y j := by unfold gI; rw [h]
theorem rmO_B1 (σ : St) {i : Nat} (hi : i < 32) : gB (rmO σ) 1 i = (gB σ 1 i && !ended σ i) := by
  have h := (rmS_f σ 32).2.2.2.2.2 i
  rw [rmO, B_I, h]
  simp [hi]
theorem rmO_B2 (σ : St) (j i : Nat) (hj : j ≠ 1) : gB (rmO σ) j i = gB σ j i := by rw [rmO, B_I]; exact (rmS_f σ 32).2.2.2.2.1 j i hj
theorem rmO_S (σ : St) (j i : Nat) : gS (rmO σ) j i = gS σ j i := by rw [rmO, S_I]; exact S_e (rmS_f σ 32).2.2.1 j i
theorem rmO_T (σ : St) (j i : Nat) : gT (rmO σ) j i = gT σ j i := by rw [rmO, T_I]; exact T_e (rmS_f σ 32).2.2.2.1 j i
theorem rmO_L (σ : St) (j : Nat) : gL (rmO σ) j = gL σ j := by rw [rmO, L_I]; exact L_e (rmS_f σ 32).2.1 j
theorem rmO_I (σ : St) {j : Nat} (hj : j ≠ 12) : gI (rmO σ) j = gI σ j := by rw [rmO, I_I _ hj]; exact I_e (rmS_f σ 32).1 j
theorem rmO_en (σ : St) (i : Nat) : ended (rmO σ) i = ended σ i := by
  unfold ended
  rw [rmO_I σ (by decide), rmO_S]
theorem rmO_no {σ : St} {i : Nat} (hi : i < 32) (h : gB (rmO σ) 1 i = true) : ended (rmO σ) i = false := by
  rw [rmO_B1 σ hi] at h
  rw [rmO_en]
  cases he : ended σ i with
  | false => rfl
  | true => rw [he] at h; simp at h
theorem rmO_pin (σ : St) : pinA (rmO σ) = pinA σ := sumI_c fun i hi => by
  unfold pF
  rw [rmO_B1 σ hi, rmO_B2 σ 2 i (by decide), rmO_S, rmO_en]
  cases gB σ 1 i <;> cases ended σ i <;> simp
theorem rmO_V {n : Nat} {σ : St} (h : V n σ) : V n (rmO σ) := h.of (fun k hk b => ⟨by rw [rmO_B1 σ hk] at b; simp at b; exact b.1, rmO_S σ 3 k, rmO_T σ 7 k⟩) (by rw [rmO_I σ (by decide)]; exact h.2.1) (rmO_L σ 5) (rmO_S σ 0)
