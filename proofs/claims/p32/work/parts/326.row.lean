/-! ===== the law's row of the order, as a list ===== -/
def Row (ρ : Nat → Int32) (γ : Nat) (L : List Nat) : Prop := γ = L.length ∧ ∀ j x, L[j]? = some x → ρ j = nI x
def SR (σ : St) (P : Nat → Bool) (L : List Nat) : Prop := (∀ k, k ∈ L ↔ k < 32 ∧ P k = true) ∧ L.Pairwise (fun i j => bef σ i j = true)
def OK (σ : St) (ρ : Nat → Int32) (γ : Nat) : Prop := ∃ L, Row ρ γ L ∧ SR σ (inO σ) L
abbrev wo (t : Nat) (L : List Nat) : List Nat := L.filter (fun x => decide (x ≠ t))
theorem pg_one {a : Nat} : ∀ {L : List Nat}, L.Pairwise (fun i j => i ≠ j) → L.length ≤ (wo a L).length + 1
  | [], _ => Nat.zero_le _
  | x :: L, h => by
    have h2 := List.pairwise_cons.mp h
    by_cases q : x = a
    · subst q
      have h3 : wo x L = L := List.filter_eq_self.mpr (fun y hy => decide_eq_true (fun e => h2.1 y hy e.symm))
      have h4 : wo x (x :: L) = wo x L := List.filter_cons_of_neg (by simp)
      rw [h4, h3]
      exact Nat.le_refl _
    · have h4 : wo a (x :: L) = x :: wo a L := List.filter_cons_of_pos (decide_eq_true q)
      have h5 := pg_one (a := a) h2.2
      rw [h4]
      simp only [List.length_cons]
      omega
theorem pg_len : ∀ {n : Nat} {L : List Nat}, L.Pairwise (fun i j => i ≠ j) → (∀ x, x ∈ L → x < n) → L.length ≤ n
  | 0, L, _, h => by
    cases L with
    | nil => exact Nat.le_refl _
    | cons x L => exact absurd (h x List.mem_cons_self) (Nat.not_lt_zero _)
  | n + 1, L, hp, h => by
    have h1 := pg_one (a := n) hp
    have h2 := pg_len (n := n) (L := wo n L) (List.Pairwise.filter _ hp) (fun x hx => by
      have h3 := List.mem_filter.mp hx
      have h4 := h x h3.1
      have h5 : x ≠ n := of_decide_eq_true h3.2
      omega)
    omega
theorem sr_lt {σ : St} {P : Nat → Bool} {L : List Nat} (h : SR σ P L) {x : Nat} (hx : x ∈ L) : x < 32 := ((h.1 x).mp hx).1
theorem sr_len {σ : St} {P : Nat → Bool} {L : List Nat} (h : SR σ P L) : L.length ≤ 32 :=
  pg_len (List.Pairwise.imp (fun {a b} (q : bef σ a b = true) (e : a = b) => by
    subst e
    rw [bef_irr] at q
    cases q) h.2) (fun x hx => sr_lt h hx)
theorem sr_flt {σ : St} {P : Nat → Bool} {L : List Nat} (h : SR σ P L) (p : Nat → Bool) : SR σ (fun k => P k && p k) (L.filter p) := by
  refine ⟨fun k => ?_, List.Pairwise.filter _ h.2⟩
  show _ ↔ k < 32 ∧ (P k && p k) = true
  rw [List.mem_filter, h.1 k, Bool.and_eq_true]
  exact ⟨fun q => ⟨q.1.1, q.1.2, q.2⟩, fun q => ⟨⟨q.1, q.2.1⟩, q.2.2⟩⟩
theorem sr_cg {σ τ : St} {P Q : Nat → Bool} {L : List Nat} (h : SR σ P L) (h1 : ∀ k, k < 32 → P k = Q k) (h2 : ∀ i j, i < 32 → j < 32 → P i = true → P j = true → bef σ i j = true → bef τ i j = true) : SR τ Q L := by
  refine ⟨fun k => ?_, List.Pairwise.imp_of_mem (fun {a b} ha hb q => h2 a b (sr_lt h ha) (sr_lt h hb) ((h.1 a).mp ha).2 ((h.1 b).mp hb).2 q) h.2⟩
  rw [h.1 k]
  exact ⟨fun q => ⟨q.1, by rw [← h1 k q.1]; exact q.2⟩, fun q => ⟨q.1, by rw [h1 k q.1]; exact q.2⟩⟩
theorem sr_ins {σ : St} {P : Nat → Bool} {A B : List Nat} {t : Nat} (h : SR σ P (A ++ B)) (ht : t < 32) (hA : ∀ x, x ∈ A → bef σ x t = true) (hB : ∀ x, x ∈ B → bef σ t x = true) : SR σ (fun k => P k || decide (k = t)) (A ++ t :: B) := by
  have hp := List.pairwise_append.mp h.2
  refine ⟨fun k => ?_, List.pairwise_append.mpr ⟨hp.1, List.pairwise_cons.mpr ⟨hB, hp.2.1⟩, fun a ha b hb => ?_⟩⟩
  · have h1 := h.1 k
    rw [List.mem_append] at h1
    show _ ↔ k < 32 ∧ (P k || decide (k = t)) = true
    rw [List.mem_append, List.mem_cons, Bool.or_eq_true, decide_eq_true_eq]
    constructor
    · intro q
      rcases q with q | q | q
      · have h2 := h1.mp (Or.inl q)
        exact ⟨h2.1, Or.inl h2.2⟩
      · exact ⟨by rw [q]; exact ht, Or.inr q⟩
      · have h2 := h1.mp (Or.inr q)
        exact ⟨h2.1, Or.inl h2.2⟩
    · intro q
      rcases q with ⟨q1, q | q⟩
      · rcases h1.mpr ⟨q1, q⟩ with g | g
        · exact Or.inl g
        · exact Or.inr (Or.inr g)
      · exact Or.inr (Or.inl q)
  · rcases List.mem_cons.mp hb with q | q
    · rw [q]; exact hA a ha
    · exact hp.2.2 a ha b q
theorem row_at {ρ : Nat → Int32} {γ : Nat} {L : List Nat} (h : Row ρ γ L) {j : Nat} (hj : j < γ) : ∃ x, L[j]? = some x ∧ ρ j = nI x := by
  have h1 : j < L.length := by rw [← h.1]; exact hj
  exact ⟨L[j], List.getElem?_eq_getElem h1, h.2 j _ (List.getElem?_eq_getElem h1)⟩
/-! ===== one thing is taken out ===== -/
def TF (t : Nat) (L : List Nat) (k : Nat) : List Nat := wo t (L.take k)
def TI (ρ ρ' : Nat → Int32) (t : Nat) (L : List Nat) (k : Nat) : Prop := (∀ j, k ≤ j → ρ' j = ρ j) ∧ ∀ j x, (TF t L k)[j]? = some x → ρ' j = nI x
theorem tf_le (t : Nat) (L : List Nat) (k : Nat) : (TF t L k).length ≤ k := by
  have h1 : (TF t L k).length ≤ (L.take k).length := List.length_filter_le _ _
  rw [List.length_take] at h1
  omega
theorem tf_s {t : Nat} {L : List Nat} {k y : Nat} (hy : L[k]? = some y) : TF t L (k + 1) = TF t L k ++ (if y = t then [] else [y]) := by
  obtain ⟨hk, e⟩ := List.getElem?_eq_some_iff.mp hy
  unfold TF wo
  rw [List.take_succ_eq_append_getElem hk, List.filter_append, e]
  by_cases q : y = t
  · rw [if_pos q, List.filter_cons_of_neg (by simp [q])]
    rfl
  · rw [if_neg q, List.filter_cons_of_pos (by simp [q])]
    rfl
theorem ti_0 (ρ : Nat → Int32) (t : Nat) (L : List Nat) : TI ρ ρ t L 0 := ⟨fun _ _ => rfl, fun j x h => by simp [TF, wo] at h⟩
theorem ti_s {ρ ρ' : Nat → Int32} {t : Nat} {L : List Nat} {k y : Nat} (h : TI ρ ρ' t L k) (hy : L[k]? = some y) : TI ρ (upd ρ' (TF t L k).length (nI y)) t L (k + 1) := by
  have hle := tf_le t L k
  refine ⟨fun j hj => ?_, fun j x hx => ?_⟩
  · rw [pk_un (by omega)]
    exact h.1 j (by omega)
  · rw [tf_s hy] at hx
    rcases Nat.lt_or_ge j (TF t L k).length with q | q
    · rw [List.getElem?_append_left q] at hx
      rw [pk_un (by omega)]
      exact h.2 j x hx
    · rw [List.getElem?_append_right q] at hx
      by_cases e : y = t
      · rw [if_pos e] at hx
        cases hx
      · rw [if_neg e] at hx
        have h9 : j - (TF t L k).length < 1 := (List.getElem?_eq_some_iff.mp hx).1
        have h0 : j - (TF t L k).length = 0 := by omega
        rw [h0] at hx
        have hj : j = (TF t L k).length := by omega
        have hxy : y = x := Option.some.inj hx
        rw [hj, pk_us, hxy]
theorem ti_at {ρ ρ' : Nat → Int32} {t : Nat} {L : List Nat} {k y : Nat} (h : TI ρ ρ' t L k) (hR : ∀ j x, L[j]? = some x → ρ j = nI x) (hy : L[k]? = some y) : ρ' k = nI y ∧ upd ρ' (TF t L k).length (nI y) k = nI y := by
  have h1 : ρ' k = nI y := by rw [h.1 k (Nat.le_refl k)]; exact hR k y hy
  refine ⟨h1, ?_⟩
  by_cases q : k = (TF t L k).length
  · rw [← q, pk_us]
  · rw [pk_un q]; exact h1
theorem ti_e {ρ ρ' : Nat → Int32} {t : Nat} {L : List Nat} (h : TI ρ ρ' t L L.length) : Row ρ' (TF t L L.length).length (wo t L) := by
  have e : TF t L L.length = wo t L := by
    unfold TF
    rw [List.take_length]
  refine ⟨by rw [e], fun j x hx => h.2 j x ?_⟩
  rw [e]
  exact hx
theorem tf_n {t : Nat} {L : List Nat} {k y : Nat} (hy : L[k]? = some y) : (TF t L (k + 1)).length = (TF t L k).length + (if y = t then 0 else 1) := by
  rw [tf_s hy, List.length_append]
  by_cases q : y = t
  · rw [if_pos q, if_pos q]; rfl
  · rw [if_neg q, if_neg q]; rfl
/-! ===== one thing is put in ===== -/
def PI (σ : St) (ρ ρ' : Nat → Int32) (t : Nat) (L : List Nat) (p : Nat) : Prop := (∀ j, j < p → ρ' j = ρ j) ∧ (∀ j, p ≤ j → j < L.length → ρ' (j + 1) = ρ j) ∧ ∀ x, x ∈ L.drop p → bef σ t x = true
theorem pi_0 (σ : St) (ρ : Nat → Int32) (t : Nat) (L : List Nat) : PI σ ρ ρ t L L.length := ⟨fun _ _ => rfl, fun j h1 h2 => absurd h2 (by omega), fun x hx => by
  rw [List.drop_length] at hx
  cases hx⟩
theorem pi_s {σ : St} {ρ ρ' : Nat → Int32} {t : Nat} {L : List Nat} {p y : Nat} (h : PI σ ρ ρ' t L (p + 1)) (hy : L[p]? = some y) (hb : bef σ t y = true) : PI σ ρ (upd ρ' (p + 1) (ρ' p)) t L p := by
  refine ⟨fun j hj => ?_, fun j h1 h2 => ?_, fun x hx => ?_⟩
  · rw [pk_un (by omega)]
    exact h.1 j (by omega)
  · by_cases e : j = p
    · subst e
      rw [pk_us]
      exact h.1 j (by omega)
    · rw [pk_un (by omega)]
      exact h.2.1 j (by omega) h2
  · obtain ⟨hk, e⟩ := List.getElem?_eq_some_iff.mp hy
    rw [List.drop_eq_getElem_cons hk, e] at hx
    rcases List.mem_cons.mp hx with q | q
    · rw [q]; exact hb
    · exact h.2.2 x q
theorem pi_e {σ : St} {ρ ρ' : Nat → Int32} {t : Nat} {L : List Nat} {p : Nat} {P : Nat → Bool} (h : PI σ ρ ρ' t L p) (hp : p ≤ L.length) (hR : ∀ j x, L[j]? = some x → ρ j = nI x) (hS : SR σ P L) (ht : t < 32) (hst : ∀ x, x ∈ L → gT σ 7 x ≠ gT σ 7 t) (hb : p = 0 ∨ ∃ q y, p = q + 1 ∧ L[q]? = some y ∧ bef σ t y = false) : ∃ L', Row (upd ρ' p (nI t)) (L.length + 1) L' ∧ SR σ (fun k => P k || decide (k = t)) L' := by
  have hlen : (L.take p).length = p := by rw [List.length_take]; omega
  refine ⟨L.take p ++ t :: L.drop p, ⟨?_, fun j x hx => ?_⟩, ?_⟩
  · rw [List.length_append, List.length_cons, hlen, List.length_drop]
    omega
  · rcases Nat.lt_or_ge j p with q | q
    · rw [List.getElem?_append_left (by omega), List.getElem?_take_of_lt q] at hx
      rw [pk_un (by omega), h.1 j q]
      exact hR j x hx
    · rw [List.getElem?_append_right (by omega), hlen] at hx
      by_cases e : j = p
      · subst e
        rw [Nat.sub_self] at hx
        have e2 : t = x := Option.some.inj hx
        rw [pk_us, e2]
      · obtain ⟨i, rfl⟩ : ∃ i, j = i + 1 := ⟨j - 1, by omega⟩
        rw [show i + 1 - p = (i - p) + 1 by omega, List.getElem?_cons_succ, List.getElem?_drop, show p + (i - p) = i by omega] at hx
        rw [pk_un (by omega), h.2.1 i (by omega) (List.getElem?_eq_some_iff.mp hx).1]
        exact hR i x hx
  · have h0 : SR σ P (L.take p ++ L.drop p) := by rw [List.take_append_drop]; exact hS
    refine sr_ins h0 ht (fun x hx => ?_) h.2.2
    rcases hb with e | ⟨q, y, e, hy, hby⟩
    · subst e
      rw [List.take_zero] at hx
      cases hx
    · subst e
      obtain ⟨hk, ey⟩ := List.getElem?_eq_some_iff.mp hy
      have hyt : bef σ y t = true := by
        have hne := hst y (List.mem_of_getElem? hy)
        have hne2 : (gT σ 7 y).toInt ≠ (gT σ 7 t).toInt := fun q => hne (Int64.toInt_inj.mp q)
        have h2 : ¬ (bef σ t y = true) := by rw [hby]; decide
        rw [bef_iff] at h2 ⊢
        omega
      rw [List.take_succ_eq_append_getElem hk, ey] at hx
      rcases List.mem_append.mp hx with g | g
      · have hpw := hS.2
        have e3 : L.take q ++ y :: L.drop (q + 1) = L := by rw [← ey, ← List.drop_eq_getElem_cons hk, List.take_append_drop]
        rw [← e3] at hpw
        exact bef_tr ((List.pairwise_append.mp hpw).2.2 x g y List.mem_cons_self) hyt
      · rw [List.mem_singleton.mp g]; exact hyt
/-! ===== the row's places are those of the order ===== -/
theorem sr_bef {σ : St} {P : Nat → Bool} {L : List Nat} {i j x y : Nat} (h : SR σ P L) (hi : L[i]? = some x) (hj : L[j]? = some y) (hij : i < j) : bef σ x y = true := by
  obtain ⟨h1, e1⟩ := List.getElem?_eq_some_iff.mp hi
  obtain ⟨h2, e2⟩ := List.getElem?_eq_some_iff.mp hj
  have h3 : bef σ L[i] L[j] = true := List.pairwise_iff_getElem.mp h.2 i j h1 h2 hij
  rw [e1, e2] at h3
  exact h3
theorem sr_nxt {σ : St} {L : List Nat} {m : Nat} {b : Option Nat} (hO : Ord σ) (h : SR σ (inO σ) L) (hb : ∀ i x, L[i]? = some x → (beh σ b x = true ↔ m ≤ i)) : nxt σ b = L[m]? := by
  generalize e : nxt σ b = o
  cases o with
  | none =>
    cases e2 : L[m]? with
    | none => rfl
    | some x =>
      have hx := (h.1 x).mp (List.mem_of_getElem? e2)
      have h1 := nxt_n hO e hx.1
      rw [hx.2, (hb m x e2).mpr (Nat.le_refl _)] at h1
      cases h1
  | some k =>
    obtain ⟨h1, h2, h3, h4⟩ := nxt_k hO e
    obtain ⟨i, hi⟩ := List.mem_iff_getElem?.mp ((h.1 k).mpr ⟨h1, h2⟩)
    have hmi := (hb i k hi).mp h3
    rcases Nat.eq_or_lt_of_le hmi with q | q
    · rw [q]; exact hi.symm
    · obtain ⟨hil, -⟩ := List.getElem?_eq_some_iff.mp hi
      have hm : m < L.length := by omega
      obtain ⟨y, e3⟩ : ∃ y, L[m]? = some y := ⟨_, List.getElem?_eq_getElem hm⟩
      have hx := (h.1 y).mp (List.mem_of_getElem? e3)
      have h5 := h4 y hx.1 (by simp [hx.2, (hb m y e3).mpr (Nat.le_refl _)])
      rw [sr_bef h e3 hi q] at h5
      cases h5
theorem nth_row {σ : St} {L : List Nat} (hO : Ord σ) (h : SR σ (inO σ) L) : ∀ j, nth σ j = L[j]? := by
  intro j
  induction j with
  | zero =>
    rw [nth_0]
    exact sr_nxt (m := 0) hO h (fun i x _ => ⟨fun _ => Nat.zero_le _, fun _ => rfl⟩)
  | succ j ih =>
    cases e : L[j]? with
    | none =>
      rw [e] at ih
      rw [nth_n ih]
      have h1 : L.length ≤ j := List.getElem?_eq_none_iff.mp e
      exact (List.getElem?_eq_none (by omega)).symm
    | some b =>
      rw [e] at ih
      rw [nth_k ih]
      refine sr_nxt (m := j + 1) hO h (fun i x hx => ⟨fun q => ?_, fun q => sr_bef h e hx q⟩)
      have q : bef σ b x = true := q
      rcases Nat.lt_or_ge j i with g | g
      · exact g
      · rcases Nat.eq_or_lt_of_le g with g2 | g2
        · subst g2
          rw [e] at hx
          cases hx
          rw [bef_irr] at q
          cases q
        · rw [bef_as (sr_bef h hx e g2)] at q
          cases q
theorem row_0 {σ : St} {L : List Nat} (hO : Ord σ) (h : SR σ (inO σ) L) : nxt σ none = L[0]? := by
  rw [← nth_0]
  exact nth_row hO h 0
def plI (L : List Nat) (t : Nat) : Nat → Int32
  | 0 => -1
  | n + 1 => if L[n]? = some t then nI n else plI L t n
theorem plI_s (L : List Nat) (t n : Nat) : plI L t (n + 1) = if L[n]? = some t then nI n else plI L t n := rfl
theorem pl_ok {σ : St} {L : List Nat} {t : Nat} (hO : Ord σ) (h : SR σ (inO σ) L) (ht : t < 32) : plI L t L.length = cPlace σ t := by
  rw [cPlace_eq ht, mPlace_eq ht]
  have huniq : ∀ j, L[j]? = some t → j = rank σ t := fun j hj => by
    rcases nth_sp hO j with ⟨k, e, hk, ok, rk⟩ | ⟨e, _⟩
    · rw [nth_row hO h j, hj] at e
      cases e
      exact rk.symm
    · rw [nth_row hO h j, hj] at e
      cases e
  cases ho : inO σ t with
  | false =>
    rw [if_neg (by decide)]
    have key : ∀ n, plI L t n = -1 := fun n => by
      induction n with
      | zero => rfl
      | succ n ih =>
        rw [plI_s, if_neg, ih]
        intro q
        have h9 := ((h.1 t).mp (List.mem_of_getElem? q)).2
        rw [ho] at h9
        cases h9
    exact key _
  | true =>
    rw [if_pos rfl]
    obtain ⟨i, hi⟩ := List.mem_iff_getElem?.mp ((h.1 t).mpr ⟨ht, ho⟩)
    have ei := huniq i hi
    rw [← ei]
    have key : ∀ n, i < n → plI L t n = nI i := fun n => by
      induction n with
      | zero => intro q; exact absurd q (Nat.not_lt_zero _)
      | succ n ih =>
        intro q
        rw [plI_s]
        by_cases g : L[n]? = some t
        · have en : n = i := by rw [huniq n g, ei]
          rw [if_pos g, en]
        · rw [if_neg g]
          have hne : n ≠ i := fun z => by
            rw [z] at g
            exact g hi
          exact ih (by omega)
    exact key _ (List.getElem?_eq_some_iff.mp hi).1
