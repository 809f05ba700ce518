/-! ===== counts ===== -/
def cnt (P : Nat → Bool) : Nat → Nat
  | 0 => 0
  | n + 1 => cnt P n + (if P n then 1 else 0)
theorem cnt_s (P : Nat → Bool) (n : Nat) : cnt P (n + 1) = cnt P n + (if P n then 1 else 0) := rfl
theorem cnt_mono {P Q : Nat → Bool} : ∀ {n : Nat}, (∀ i, i < n → P i = true → Q i = true) → cnt P n ≤ cnt Q n
  | 0, _ => Nat.le_refl _
  | n + 1, h => by
    have h1 := cnt_mono (n := n) (fun i hi => h i (by omega))
    rw [cnt_s, cnt_s]
    by_cases hp : P n = true
    · rw [if_pos hp, if_pos (h n (by omega) hp)]; omega
    · rw [if_neg hp]; omega
theorem cnt_congr {P Q : Nat → Bool} {n : Nat} (h : ∀ i, i < n → P i = Q i) : cnt P n = cnt Q n :=
  Nat.le_antisymm (cnt_mono fun i hi hp => by rw [← h i hi]; exact hp) (cnt_mono fun i hi hp => by rw [h i hi]; exact hp)
theorem cnt_lt {P Q : Nat → Bool} {k : Nat} (hp : P k = false) (hq : Q k = true) : ∀ {n : Nat}, k < n → (∀ i, i < n → P i = true → Q i = true) → cnt P n < cnt Q n
  | 0, hk, _ => absurd hk (Nat.not_lt_zero _)
  | n + 1, hk, h => by
    rw [cnt_s, cnt_s]
    by_cases e : k = n
    · subst e
      have h1 := cnt_mono (n := k) (fun i hi => h i (by omega))
      rw [hp, hq]
      simp
      omega
    · have h1 := cnt_lt hp hq (n := n) (by omega) (fun i hi => h i (by omega))
      by_cases g : P n = true
      · rw [if_pos g, if_pos (h n (by omega) g)]; omega
      · rw [if_neg g]; omega
theorem cnt_add {P Q : Nat → Bool} {k : Nat} (hp : P k = false) (hq : Q k = true) : ∀ {n : Nat}, k < n → (∀ i, i < n → i ≠ k → Q i = P i) → cnt Q n = cnt P n + 1
  | 0, hk, _ => absurd hk (Nat.not_lt_zero _)
  | n + 1, hk, h => by
    rw [cnt_s, cnt_s]
    by_cases e : k = n
    · subst e
      have h1 := cnt_congr (P := Q) (Q := P) (n := k) (fun i hi => h i (by omega) (by omega))
      rw [h1, hp, hq]
      simp
    · have h1 := cnt_add hp hq (n := n) (by omega) (fun i hi => h i (by omega))
      rw [h1, h n (by omega) (fun q => e q.symm)]
      omega
theorem cnt_le (P : Nat → Bool) : ∀ n, cnt P n ≤ n
  | 0 => Nat.le_refl _
  | n + 1 => by
    rw [cnt_s]
    have := cnt_le P n
    by_cases h : P n = true
    · rw [if_pos h]; omega
    · rw [if_neg h]; omega
theorem cnt_0 {P : Nat → Bool} : ∀ {n : Nat}, (∀ i, i < n → P i = false) → cnt P n = 0
  | 0, _ => rfl
  | n + 1, h => by
    rw [cnt_s, cnt_0 (n := n) (fun i hi => h i (by omega)), h n (by omega)]
    rfl
theorem cnt_z {P : Nat → Bool} {n : Nat} (h : cnt P n = 0) {i : Nat} (hi : i < n) : P i = false := by
  cases hp : P i with
  | false => rfl
  | true =>
    have h1 := cnt_lt (P := fun _ => false) (Q := P) rfl hp hi (fun _ _ q => by cases q)
    omega
theorem sumI_s (f : Nat → Int32) (n : Nat) : sumI f (n + 1) = sumI f n + f n := rfl
theorem sumI_c {f g : Nat → Int32} : ∀ {n : Nat}, (∀ i, i < n → f i = g i) → sumI f n = sumI g n
  | 0, _ => rfl
  | n + 1, h => by rw [sumI_s, sumI_s, sumI_c (n := n) (fun i hi => h i (by omega)), h n (by omega)]
theorem sumI_cnt (P : Nat → Bool) : ∀ n, sumI (fun i => if P i then 1 else 0) n = nI (cnt P n)
  | 0 => rfl
  | n + 1 => by
    rw [sumI_s, sumI_cnt P n, cnt_s]
    by_cases h : P n = true
    · simp only [h, if_true]; rw [nI_succ]
    · simp only [h]; simp
/-! ===== the order of leaving ===== -/
theorem bef_iff (σ : St) (i j : Nat) : bef σ i j = true ↔ (gT σ 6 i).toInt < (gT σ 6 j).toInt ∨ ((gT σ 6 i).toInt = (gT σ 6 j).toInt ∧ (gT σ 7 i).toInt < (gT σ 7 j).toInt) := by
  unfold bef
  simp only [Bool.or_eq_true, Bool.and_eq_true, decide_eq_true_eq, Int64.lt_iff_toInt_lt, ← Int64.toInt_inj]
theorem bef_irr (σ : St) (i : Nat) : bef σ i i = false := by
  cases h : bef σ i i with
  | false => rfl
  | true => have := (bef_iff σ i i).mp h; omega
theorem bef_tr {σ : St} {i j k : Nat} (h1 : bef σ i j = true) (h2 : bef σ j k = true) : bef σ i k = true := by
  rw [bef_iff] at *
  omega
theorem bef_as {σ : St} {i j : Nat} (h1 : bef σ i j = true) : bef σ j i = false := by
  cases h : bef σ j i with
  | false => rfl
  | true => have := bef_tr h1 h; rw [bef_irr] at this; cases this
/-- of two in the order one leaves before the other -/
def Ord (σ : St) : Prop := ∀ i j, i < 32 → j < 32 → inO σ i = true → inO σ j = true → i ≠ j → gT σ 7 i ≠ gT σ 7 j
theorem bef_tot {σ : St} (h : Ord σ) {i j : Nat} (hi : i < 32) (hj : j < 32) (oi : inO σ i = true) (oj : inO σ j = true) (hb : bef σ i j = false) : i = j ∨ bef σ j i = true := by
  by_cases e : i = j
  · exact Or.inl e
  · right
    have h1 : (gT σ 7 i).toInt ≠ (gT σ 7 j).toInt := fun q => h i j hi hj oi oj e (Int64.toInt_inj.mp q)
    have h2 : ¬ (bef σ i j = true) := by rw [hb]; decide
    rw [bef_iff] at h2 ⊢
    omega
def rank (σ : St) (k : Nat) : Nat := cnt (fun i => inO σ i && bef σ i k) 32
theorem rank_lt {σ : St} {i k : Nat} (hi : i < 32) (oi : inO σ i = true) (h : bef σ i k = true) : rank σ i < rank σ k :=
  cnt_lt (k := i) (by simp [bef_irr]) (by simp [oi, h]) hi (fun j _ q => by
    simp only [Bool.and_eq_true] at q ⊢
    exact ⟨q.1, bef_tr q.2 h⟩)
theorem rank_inj {σ : St} (h : Ord σ) {i j : Nat} (hi : i < 32) (hj : j < 32) (oi : inO σ i = true) (oj : inO σ j = true) (e : rank σ i = rank σ j) : i = j := by
  cases hb : bef σ i j with
  | true => have := rank_lt hi oi hb; omega
  | false =>
    rcases bef_tot h hi hj oi oj hb with q | q
    · exact q
    · have := rank_lt hj oj q; omega
theorem nxtR_e (σ : St) (b : Option Nat) (i : Nat) : nxtR σ b (i + 1) = if inO σ i && beh σ b i && befO σ i (nxtR σ b i) then some i else nxtR σ b i := rfl
theorem nxtR_sp {σ : St} (h : Ord σ) (b : Option Nat) : ∀ n, n ≤ 32 → (nxtR σ b n = none ∧ ∀ i, i < n → (inO σ i && beh σ b i) = false) ∨ (∃ k, nxtR σ b n = some k ∧ k < n ∧ inO σ k = true ∧ beh σ b k = true ∧ ∀ i, i < n → (inO σ i && beh σ b i) = true → bef σ i k = false)
  | 0, _ => Or.inl ⟨rfl, fun i hi => absurd hi (Nat.not_lt_zero _)⟩
  | n + 1, hn => by
    rw [nxtR_e]
    rcases nxtR_sp h b n (by omega) with ⟨h1, h2⟩ | ⟨k, h1, h2, h3, h4, h5⟩
    · rw [h1]
      cases hc : (inO σ n && beh σ b n) with
      | true =>
        have e := hc
        simp only [Bool.and_eq_true] at e
        refine Or.inr ⟨n, by simp [befO, e.1, e.2], by omega, e.1, e.2, fun i hi q => ?_⟩
        rcases Nat.lt_or_ge i n with g | g
        · rw [h2 i g] at q; cases q
        · have : i = n := by omega
          subst this; exact bef_irr σ i
      | false =>
        refine Or.inl ⟨by simp, fun i hi => ?_⟩
        rcases Nat.lt_or_ge i n with g | g
        · exact h2 i g
        · have : i = n := by omega
          subst this; exact hc
    · rw [h1]
      cases hc : (inO σ n && beh σ b n) with
      | true =>
        have e := hc
        simp only [Bool.and_eq_true] at e
        cases hb : bef σ n k with
        | true =>
          refine Or.inr ⟨n, by simp [befO, hb], by omega, e.1, e.2, fun i hi q => ?_⟩
          rcases Nat.lt_or_ge i n with g | g
          · cases hb2 : bef σ i n with
            | false => rfl
            | true =>
              have := h5 i g q
              rw [bef_tr hb2 hb] at this; cases this
          · have : i = n := by omega
            subst this; exact bef_irr σ i
        | false =>
          refine Or.inr ⟨k, by simp [befO, hb], by omega, h3, h4, fun i hi q => ?_⟩
          rcases Nat.lt_or_ge i n with g | g
          · exact h5 i g q
          · have : i = n := by omega
            subst this; exact hb
      | false =>
        refine Or.inr ⟨k, by simp, by omega, h3, h4, fun i hi q => ?_⟩
        rcases Nat.lt_or_ge i n with g | g
        · exact h5 i g q
        · have : i = n := by omega
          subst this; rw [hc] at q; cases q
theorem nxt_n {σ : St} (h : Ord σ) {b : Option Nat} (e : nxt σ b = none) {i : Nat} (hi : i < 32) : (inO σ i && beh σ b i) = false := by
  rcases nxtR_sp h b 32 (by omega) with ⟨_, h2⟩ | ⟨k, h1, _⟩
  · exact h2 i hi
  · have : nxt σ b = some k := h1
    rw [e] at this; cases this
theorem nxt_k {σ : St} (h : Ord σ) {b : Option Nat} {k : Nat} (e : nxt σ b = some k) : k < 32 ∧ inO σ k = true ∧ beh σ b k = true ∧ ∀ i, i < 32 → (inO σ i && beh σ b i) = true → bef σ i k = false := by
  rcases nxtR_sp h b 32 (by omega) with ⟨h1, _⟩ | ⟨k', h1, h2, h3, h4, h5⟩
  · have : nxt σ b = none := h1
    rw [e] at this; cases this
  · have : nxt σ b = some k' := h1
    rw [e] at this
    cases this
    exact ⟨h2, h3, h4, h5⟩
theorem nth_0 (σ : St) : nth σ 0 = nxt σ none := by rw [nth]
theorem nth_k {σ : St} {j b : Nat} (e : nth σ j = some b) : nth σ (j + 1) = nxt σ (some b) := by rw [nth_s, e]
theorem nth_n {σ : St} {j : Nat} (e : nth σ j = none) : nth σ (j + 1) = none := by rw [nth_s, e]
theorem nth_sp0 {σ : St} (h : Ord σ) : (∃ k, nth σ 0 = some k ∧ k < 32 ∧ inO σ k = true ∧ rank σ k = 0) ∨ (nth σ 0 = none ∧ ∀ k, k < 32 → inO σ k = true → rank σ k < 0) := by
  rw [nth_0]
  cases e : nxt σ none with
  | none =>
    refine Or.inr ⟨rfl, fun k hk ok => ?_⟩
    have := nxt_n h e hk
    simp [beh, ok] at this
  | some k =>
    obtain ⟨h1, h2, h3, h4⟩ := nxt_k h e
    refine Or.inl ⟨k, rfl, h1, h2, ?_⟩
    unfold rank
    refine cnt_0 fun i hi => ?_
    cases ho : inO σ i with
    | false => rfl
    | true => simp [h4 i hi (by simp [ho, beh])]
theorem rank_s {σ : St} (h : Ord σ) {b k : Nat} (hb : b < 32) (ob : inO σ b = true) (e2 : nxt σ (some b) = some k) : rank σ k = rank σ b + 1 := by
  obtain ⟨h1, h2, h3, h4⟩ := nxt_k h e2
  have hbk : bef σ b k = true := h3
  unfold rank
  refine cnt_add (k := b) (by simp [bef_irr]) (by simp [ob, hbk]) hb (fun i hi hne => ?_)
  cases ho : inO σ i with
  | false => simp only [Bool.false_and]
  | true =>
    simp only [Bool.true_and]
    cases hbi : bef σ b i with
    | true => rw [h4 i hi (by simp [ho, beh, hbi]), bef_as hbi]
    | false =>
      rcases bef_tot h hb hi ob ho hbi with q | q
      · exact absurd q.symm hne
      · rw [q, bef_tr q hbk]
theorem rank_e {σ : St} (h : Ord σ) {b k : Nat} (hb : b < 32) (ob : inO σ b = true) (e2 : nxt σ (some b) = none) (hk : k < 32) (ok : inO σ k = true) : rank σ k ≤ rank σ b := by
  have h1 : (inO σ k && beh σ (some b) k) = false := nxt_n h e2 hk
  have h2 : bef σ b k = false := by simpa [beh, ok] using h1
  rcases bef_tot h hb hk ob ok h2 with q | q
  · rw [q]; exact Nat.le_refl _
  · exact Nat.le_of_lt (rank_lt hk ok q)
theorem nth_spS {σ : St} (h : Ord σ) {j : Nat} (ih : (∃ k, nth σ j = some k ∧ k < 32 ∧ inO σ k = true ∧ rank σ k = j) ∨ (nth σ j = none ∧ ∀ k, k < 32 → inO σ k = true → rank σ k < j)) : (∃ k, nth σ (j + 1) = some k ∧ k < 32 ∧ inO σ k = true ∧ rank σ k = j + 1) ∨ (nth σ (j + 1) = none ∧ ∀ k, k < 32 → inO σ k = true → rank σ k < j + 1) := by
  rcases ih with ⟨b, e, hb, ob, rb⟩ | ⟨e, hr⟩
  · rw [nth_k e]
    generalize e2 : nxt σ (some b) = o
    cases o with
    | none => exact Or.inr ⟨rfl, fun k hk ok => rb ▸ Nat.lt_succ_of_le (rank_e h hb ob e2 hk ok)⟩
    | some k =>
      obtain ⟨h1, h2, h3, h4⟩ := nxt_k h e2
      exact Or.inl ⟨k, rfl, h1, h2, rb ▸ rank_s h hb ob e2⟩
  · exact Or.inr ⟨nth_n e, fun k hk ok => Nat.lt_succ_of_lt (hr k hk ok)⟩
theorem nth_sp {σ : St} (h : Ord σ) : ∀ j, (∃ k, nth σ j = some k ∧ k < 32 ∧ inO σ k = true ∧ rank σ k = j) ∨ (nth σ j = none ∧ ∀ k, k < 32 → inO σ k = true → rank σ k < j) := by
  intro j
  induction j with
  | zero => exact nth_sp0 h
  | succ j ih => exact nth_spS h ih
theorem rank_32 {σ : St} {k : Nat} (hk : k < 32) (ok : inO σ k = true) : rank σ k < 32 := by
  have h1 : rank σ k < cnt (fun i => inO σ i) 32 := cnt_lt (k := k) (by simp [bef_irr]) ok hk (fun i _ q => by simp only [Bool.and_eq_true] at q; exact q.1)
  have h2 := cnt_le (fun i => inO σ i) 32
  omega
theorem nth_32 {σ : St} (h : Ord σ) {j : Nat} (hj : 32 ≤ j) : nth σ j = none := by
  rcases nth_sp h j with ⟨k, _, hk, ok, rk⟩ | ⟨e, _⟩
  · have := rank_32 hk ok; omega
  · exact e
theorem mPlace_eq {σ : St} {k : Nat} (hk : k < 32) : mPlace σ k = if inO σ k then nI (rank σ k) else -1 := by
  unfold mPlace rank
  rw [← sumI_cnt]
  have e : sumI (mPl σ k) 32 = sumI (fun i => if (inO σ i && bef σ i k) then 1 else 0) 32 := sumI_c fun i hi => by
    unfold mPl
    by_cases q : i = k
    · subst q
      simp [bef_irr]
    · have h1 : ¬ nI i = nI k := fun z => q (nI_inj32 hi hk z)
      simp [h1, inO]
  rw [e]
  rfl
theorem cPlace_eq {σ : St} {k : Nat} (hk : k < 32) : cPlace σ k = mPlace σ k := by
  rw [mPlace_eq hk]
  unfold cPlace rank
  rw [← sumI_cnt]
  rfl
theorem atR_f {σ : St} {q : Int32} : ∀ {n : Nat}, (∀ i, i < n → ¬ mPlace σ i = q) → atR σ q n = none
  | 0, _ => rfl
  | n + 1, h => atR_none (atR_f (n := n) fun i hi => h i (by omega)) (h n (by omega))
theorem nI_m1 {n : Nat} (h : n < 2 ^ 31) : ¬ (-1 : Int32) = nI n := by
  intro e
  have h2 : (-1 : Int32).toInt = (nI n).toInt := by rw [e]
  rw [nI_toInt h] at h2
  have h3 : (-1 : Int32).toInt = -1 := by decide
  omega
theorem at_nth {σ : St} (h : Ord σ) {j : Nat} (hj : j < 2 ^ 31) : atR σ (nI j) 32 = nth σ j := by
  rcases nth_sp h j with ⟨k, e, hk, ok, rk⟩ | ⟨e, hr⟩
  · rw [e]
    have h1 : atR σ (nI j) k = none := atR_f fun i hi => by
      rw [mPlace_eq (by omega)]
      cases oi : inO σ i with
      | false => simp only [Bool.false_eq_true, if_false]; exact nI_m1 hj
      | true =>
        simp only [if_true]
        intro q
        have h2 := (nI_eq (Nat.lt_trans (rank_32 (by omega) oi) (by decide)) hj).mp q
        have := rank_inj h (by omega) hk oi ok (by omega)
        omega
    exact atR_some h1 (by rw [mPlace_eq hk, ok, rk]; rfl) hk
  · rw [e]
    refine atR_f fun i hi => ?_
    rw [mPlace_eq hi]
    cases oi : inO σ i with
    | false => simp only [Bool.false_eq_true, if_false]; exact nI_m1 hj
    | true =>
      simp only [if_true]
      intro q
      have h2 := (nI_eq (Nat.lt_trans (rank_32 hi oi) (by decide)) hj).mp q
      have := hr i hi oi
      omega
