/-! ===== what holds before each turn of the law ===== -/
def TB (n : Nat) (σ : St) : Prop := (0 ≤ (gI σ 1).toInt ∧ (gI σ 1).toInt ≤ 10000 * (n : Int)) ∧ ∀ k, k < 32 → -1 ≤ (gS σ 8 k).toInt ∧ (gS σ 8 k).toInt ≤ 10000 * (n : Int)
def SI (n : Nat) (σ : St) (ρ : Nat → Int32) (γ : Nat) : Prop := V n σ ∧ TB n σ ∧ OK σ ρ γ
theorem tb_of {n : Nat} {σ τ : St} (h : TB n σ) (h1 : gI τ 1 = gI σ 1) (h8 : ∀ i, i < 32 → gS τ 8 i = gS σ 8 i ∨ gS τ 8 i = gI σ 1) : TB (n + 1) τ := by
  obtain ⟨a, b⟩ := h
  refine ⟨by rw [h1]; omega, fun k hk => ?_⟩
  have hb := b k hk
  rcases h8 k hk with q | q
  · rw [q]; omega
  · rw [q]; omega
theorem room_8 (ρ : St) (z : Int32) : gI (cRoom ρ z).2 1 = gI ρ 1 ∧ ∀ i, gS (cRoom ρ z).2 8 i = gS ρ 8 i := by
  unfold cRoom
  by_cases c : cHasRoom ρ z = true
  · rw [if_pos c]
    exact ⟨rfl, fun _ => rfl⟩
  · rw [if_neg c]
    by_cases c2 : gI (rmO ρ) 3 - pinA (rmO ρ) < z
    · rw [if_pos c2]
      exact ⟨rmO_I ρ (by decide), fun i => rmO_S ρ 8 i⟩
    · rw [if_neg c2]
      refine ⟨?_, fun i => ?_⟩
      · show gI (lvD _ (rmO ρ)) 1 = _
        unfold lvD
        rw [I_I _ (by decide), I_e (lvI_aw (rmO ρ) _).1 1]
        exact rmO_I ρ (by decide)
      · show gS (lvD _ (rmO ρ)) 8 i = _
        unfold lvD
        rw [S_I, S_e (lvI_aw (rmO ρ) _).2.2.1 8 i]
        exact rmO_S ρ 8 i
theorem miss_8 (σ : St) (k : Nat) (pr : Int32) (i : Nat) : gS (mMiss σ k pr) 8 i = gS σ 8 i ∨ gS (mMiss σ k pr) 8 i = gI σ 1 := by
  have e : gS (mMiss σ k pr) 8 i = gS (uS σ 8 k (gI σ 1)) 8 i := rfl
  rw [e, gS_up, if_pos rfl]
  by_cases q : i = k
  · rw [if_pos q]; exact Or.inr rfl
  · rw [if_neg q]; exact Or.inl rfl
theorem fetch_8 (σ : St) (k : Nat) (z pr lf : Int32) : gI (cFetch σ k z pr lf).2 1 = gI σ 1 ∧ ∀ i, gS (cFetch σ k z pr lf).2 8 i = gS σ 8 i ∨ gS (cFetch σ k z pr lf).2 8 i = gI σ 1 := by
  cases hh : (gB σ 1 k && !ended σ k && decide (gS σ 3 k = z)) with
  | true =>
    unfold cFetch
    rw [if_pos hh]
    exact ⟨rfl, fun i => Or.inl rfl⟩
  | false =>
    rw [cf_miss hh]
    have m1 : gI (mMiss σ k pr) 1 = gI σ 1 := rfl
    have m8 := miss_8 σ k pr
    generalize mMiss σ k pr = M at m1 m8
    obtain ⟨r1, r8⟩ := room_8 M z
    by_cases c1 : gI M 3 < z
    · rw [if_pos c1]; exact ⟨m1, m8⟩
    · rw [if_neg c1]
      by_cases c2 : (decide (gI M 4 < z) && !cLate σ k) = true
      · rw [if_pos c2]; exact ⟨m1, m8⟩
      · rw [if_neg c2]
        by_cases c3 : (cRoom M z).1 = true
        · rw [if_pos c3]
          generalize (cRoom M z).2 = X at r1 r8
          have f1 : gI (cFill X k z pr lf) 1 = gI X 1 := rfl
          have f8 : ∀ i, gS (cFill X k z pr lf) 8 i = gS X 8 i := fun _ => rfl
          exact ⟨by rw [f1, r1, m1], fun i => by rw [f8, r8]; exact m8 i⟩
        · rw [if_neg c3]
          exact ⟨by rw [r1, m1], fun i => by rw [r8]; exact m8 i⟩
theorem si_fetch {n k : Nat} {σ : St} {ρ ρ1 : Nat → Int32} {γ γ1 : Nat} {z pr lf : Int32} (h : SI n σ ρ γ) (hn : n < 2 ^ 30) (hk : k < 32) (hz : 1 ≤ z.toInt ∧ z.toInt ≤ 1000) (hO : OK (cFetch σ k z pr lf).2 ρ1 γ1) : SI (n + 1) (cFetch σ k z pr lf).2 ρ1 γ1 :=
  ⟨fetch_V h.1 hn hk hz, tb_of h.2.1 (fetch_8 σ k z pr lf).1 (fun i _ => (fetch_8 σ k z pr lf).2 i), hO⟩
theorem si_up {n : Nat} {σ : St} {ρ : Nat → Int32} {γ : Nat} (h : SI n σ ρ γ) : SI (n + 1) σ ρ γ := ⟨h.1.up (Nat.le_succ n), tb_of h.2.1 rfl (fun _ _ => Or.inl rfl), h.2.2⟩
theorem si_pass {n d : Nat} {σ : St} {ρ : Nat → Int32} {γ : Nat} (h : SI n σ ρ γ) (hn : n < 100) (hd : d ≤ 10000) : SI (n + 1) (uI σ 1 (gI σ 1 + nI d)) ρ γ := by
  obtain ⟨h1, ⟨h2, h3⟩, h4⟩ := h
  have e0 : gI (uI σ 1 (gI σ 1 + nI d)) 1 = gI σ 1 + nI d := by rw [gI_u, if_pos rfl]
  have ed : (nI d).toInt = (d : Int) := nI_toInt (by omega)
  have e1 : (gI σ 1 + nI d).toInt = (gI σ 1).toInt + (d : Int) := by rw [i_add (by omega) (by omega), ed]
  refine ⟨(V_uI h1 (by decide) _).up (Nat.le_succ n), ⟨?_, fun k hk => ?_⟩, h4⟩
  · rw [e0, e1]; omega
  · have e8 : gS (uI σ 1 (gI σ 1 + nI d)) 8 k = gS σ 8 k := rfl
    have := h3 k hk
    rw [e8]; omega
theorem uB_self {σ : St} {j k : Nat} {b : Bool} (h : gB σ j k = b) : uB σ j k b = σ := by
  refine St_x (fun _ => rfl) (fun _ => rfl) (fun _ _ => rfl) (fun _ _ => rfl) (fun a i => ?_)
  rw [gB_up]
  by_cases q : a = j
  · subst q
    rw [if_pos rfl]
    by_cases g : i = k
    · subst g
      rw [if_pos rfl, h]
    · rw [if_neg g]
  · rw [if_neg q]
theorem pin_B (σ : St) (k i : Nat) (b : Bool) : gB (uB σ 2 k b) 1 i = gB σ 1 i ∧ gB (uB σ 2 k b) 2 i = if i = k then b else gB σ 2 i := by
  refine ⟨?_, ?_⟩
  · rw [gB_up, if_neg (show ¬ (1 : Nat) = 2 by decide)]
  · rw [gB_up, if_pos rfl]
theorem pin_V {n : Nat} {σ : St} (h : V n σ) (k : Nat) (b : Bool) : V n (uB σ 2 k b) := h.of (fun i _ q => ⟨by rw [(pin_B σ k i b).1] at q; exact q, rfl, rfl⟩) h.2.1 rfl (fun _ => rfl)
theorem si_pin {n k : Nat} {σ : St} {ρ ρ1 : Nat → Int32} {γ γ1 : Nat} {b : Bool} (h : SI n σ ρ γ) (hO : OK (uB σ 2 k b) ρ1 γ1) : SI (n + 1) (uB σ 2 k b) ρ1 γ1 :=
  ⟨(pin_V h.1 k b).up (Nat.le_succ n), tb_of h.2.1 rfl (fun _ _ => Or.inl rfl), hO⟩
theorem pin_t {σ : St} {k : Nat} {L : List Nat} (h : SR σ (inO σ) L) : SR (uB σ 2 k true) (inO (uB σ 2 k true)) (wo k L) := by
  refine sr_cg (sr_flt h (fun x => decide (x ≠ k))) (fun i _ => ?_) (fun _ _ _ _ _ _ q => q)
  unfold inO
  rw [(pin_B σ k i true).1, (pin_B σ k i true).2]
  by_cases q : i = k
  · simp [q]
  · simp [q]
theorem pin_w {σ : St} {k : Nat} {L : List Nat} (h : SR σ (inO σ) L) : SR (uB σ 2 k false) (fun x => inO σ x && decide (x ≠ k)) (wo k L) := sr_flt h (fun x => decide (x ≠ k))
theorem pin_st {n k : Nat} {σ : St} {L : List Nat} (hV : V n σ) (hk : k < 32) (hb : gB σ 1 k = true) (h : SR σ (inO σ) L) : ∀ x, x ∈ wo k L → gT (uB σ 2 k false) 7 x ≠ gT (uB σ 2 k false) 7 k := fun x hx => by
  have h1 := List.mem_filter.mp hx
  have h2 : x ≠ k := of_decide_eq_true h1.2
  have h3 := (h.1 x).mp h1.1
  exact hV.2.2.2.2.1 x k h3.1 hk (inO_B h3.2).1 hb h2
theorem pin_f {σ : St} {k : Nat} {L : List Nat} (hb : gB σ 1 k = true) (h : SR (uB σ 2 k false) (fun x => (inO σ x && decide (x ≠ k)) || decide (x = k)) L) : SR (uB σ 2 k false) (inO (uB σ 2 k false)) L := by
  refine sr_cg h (fun i _ => ?_) (fun _ _ _ _ _ _ q => q)
  show ((inO σ i && decide (i ≠ k)) || decide (i = k)) = inO (uB σ 2 k false) i
  unfold inO
  rw [(pin_B σ k i false).1, (pin_B σ k i false).2]
  by_cases q : i = k
  · subst q
    simp [hb]
  · simp [q]
theorem rm_V {n : Nat} {σ : St} (h : V n σ) (k : Nat) : V n (uB σ 1 k false) := h.of (fun i _ b => by
  rw [gB_up, if_pos rfl] at b
  by_cases q : i = k
  · rw [if_pos q] at b; cases b
  · rw [if_neg q] at b; exact ⟨b, rfl, rfl⟩) h.2.1 rfl (fun _ => rfl)
theorem si_drop {n k : Nat} {σ : St} {ρ ρ1 : Nat → Int32} {γ γ1 : Nat} (h : SI n σ ρ γ) (hO : OK (uB σ 1 k false) ρ1 γ1) : SI (n + 1) (uB σ 1 k false) ρ1 γ1 :=
  ⟨(rm_V h.1 k).up (Nat.le_succ n), tb_of h.2.1 rfl (fun _ _ => Or.inl rfl), hO⟩
theorem si_purge {n : Nat} {σ : St} {ρ ρ1 : Nat → Int32} {γ γ1 : Nat} (h : SI n σ ρ γ) (hO : OK (rmO σ) ρ1 γ1) : SI (n + 1) (rmO σ) ρ1 γ1 :=
  ⟨(rmO_V h.1).up (Nat.le_succ n), tb_of h.2.1 (rmO_I σ (by decide)) (fun i _ => Or.inl (rmO_S σ 8 i)), hO⟩
theorem si_thr {n : Nat} {σ : St} {ρ : Nat → Int32} {γ : Nat} (h : SI n σ ρ γ) (v : Int32) : SI (n + 1) (uI σ 4 v) ρ γ :=
  ⟨(V_uI h.1 (by decide) v).up (Nat.le_succ n), tb_of h.2.1 (by rw [gI_u, if_neg (by decide)]) (fun _ _ => Or.inl rfl), h.2.2⟩
theorem cap_8 (σ : St) (t : Int32) : gI (cSetCap σ t).2 1 = gI σ 1 ∧ ∀ i, gS (cSetCap σ t).2 8 i = gS σ 8 i := by
  unfold cSetCap
  have e1 : gI (uI σ 3 t) 1 = gI σ 1 := by rw [gI_u, if_neg (by decide)]
  have e8 : ∀ i, gS (uI σ 3 t) 8 i = gS σ 8 i := fun _ => rfl
  generalize uI σ 3 t = X at e1 e8 ⊢
  show gI (if t < used X then (nI (lvE t (rmO X)), lvD t (rmO X)) else (0, X)).2 1 = _ ∧ ∀ i, gS (if t < used X then (nI (lvE t (rmO X)), lvD t (rmO X)) else (0, X)).2 8 i = _
  by_cases c : t < used X
  · rw [if_pos c]
    refine ⟨?_, fun i => ?_⟩
    · show gI (lvD t (rmO X)) 1 = _
      unfold lvD
      rw [I_I _ (by decide), I_e (lvI_aw (rmO X) _).1 1, rmO_I X (by decide)]
      exact e1
    · show gS (lvD t (rmO X)) 8 i = _
      unfold lvD
      rw [S_I, S_e (lvI_aw (rmO X) _).2.2.1 8 i, rmO_S X 8 i]
      exact e8 i
  · rw [if_neg c]
    exact ⟨e1, e8⟩
theorem si_cap {n : Nat} {σ : St} {ρ ρ1 : Nat → Int32} {γ γ1 : Nat} {t r : Int32} {X : St} (h : SI n σ ρ γ) (hc : cSetCap σ t = (r, X)) (hV : V n X) (hO : OK X ρ1 γ1) : SI (n + 1) X ρ1 γ1 := by
  have e : (cSetCap σ t).2 = X := by rw [hc]
  obtain ⟨h1, h8⟩ := cap_8 σ t
  rw [e] at h1 h8
  exact ⟨hV.up (Nat.le_succ n), tb_of h.2.1 h1 (fun i _ => Or.inl (h8 i)), hO⟩
theorem cap_V {n : Nat} {σ : St} {t : Int32} (hV : V n σ) (ht : inR t 1 10000 = true) : V n (uI σ 3 t) := by
  have hi := inR_i ht
  have e1 : (1 : Int32).toInt = 1 := by decide
  have e2 : (10000 : Int32).toInt = 10000 := by decide
  rw [e1, e2] at hi
  exact hV.of (fun k _ b => ⟨b, rfl, rfl⟩) (by
    have e3 : gI (uI σ 3 t) 3 = t := by rw [gI_u, if_pos rfl]
    rw [e3]; exact hi) rfl (fun _ => rfl)
theorem in_N {n a b : Nat} (h : a ≤ n ∧ n ≤ b) (hb : b < 2 ^ 31) : inR (nI n) (nI a) (nI b) = true := by
  unfold inR
  rw [decide_eq_false (nI_nlt h.1 (by omega)), decide_eq_false (nI_nlt h.2 hb)]
  rfl
theorem t_N {n b : Nat} (h : 1 ≤ n ∧ n ≤ b) (hb : b < 2 ^ 31) : 1 ≤ (nI n).toInt ∧ (nI n).toInt ≤ (b : Int) := by
  rw [nI_toInt (by omega)]
  omega
theorem bI_nlt (b : Bool) : ¬ bI b < 0 := by cases b <;> decide
theorem i_back (a b : Int32) : a + b - a = b := by rw [Int32.add_comm, Int32.add_sub_cancel]
theorem mLv1_11 (σ : St) (k : Nat) : gI (mLv1 σ k) 11 = gI σ 11 + 1 := by
  unfold mLv1
  rw [gI_u, if_pos rfl]
theorem inO_pinned {σ : St} {k : Nat} (h : gB σ 2 k = true) : inO σ k = false := by
  unfold inO
  rw [h, Bool.not_true, Bool.and_false]
theorem and_N (x : Int32) : ∃ j, j < 2 ^ 31 ∧ x &&& 2147483647 = nI j :=
  ⟨x.toBitVec.toNat % 2 ^ 31, Nat.mod_lt _ (by decide), pk_and x 31 (by decide)⟩
