/-! ===== what the law's own methods do to a state, and that it is what the class does ===== -/
section XG
variable {p : Program} {l : Launch} {e : Env} {R : Room} {s : State} {m : MethodId} {args : Array Value} {below : List Frame} {meth : Method} {c : Code} {H : Heap} {locs : List Loc} {cells slots : Nat} {Q : State → Prop}
variable {cc : ByteArray} {pc : Nat} {ls : Array Slot} {rest : List Value}
theorem x_gt (hx : p.tables.exec = Jvm.exec) (hb : c.code = cc) {x y : Int64} {off : Int} {tgt : Nat} (hd0 : decode cc pc = .ok (.lcmp, 1)) (hdg : decode cc (pc + 1) = .ok (.ifCond .gt off, 3)) (ht : ((pc + 1 : Nat) : Int) + off = (tgt : Int))
    (kt : y < x → W p l e R s m args below meth c H locs cells slots Q (F0 m tgt ls rest)) (kf : ¬ y < x → W p l e R s m args below meth c H locs cells slots Q (F0 m (pc + 1 + 3) ls rest)) : W p l e R s m args below meth c H locs cells slots Q (F0 m pc ls (.long y :: .long x :: rest)) :=
  W.lcmp hx hb hd0 (lv_if_gt hx hb hdg ht (fun h => kt (lgc_gt.mp h)) (fun h => kf (fun q => h (lgc_gt.mpr q))))
end XG
theorem en_f {σ : St} {k : Nat} (h : gI σ 1 < gS σ 5 k) : ended σ k = false := by
  unfold ended
  rw [decide_eq_true h]
  rfl
theorem en_t {σ : St} {k : Nat} (h : ¬ gI σ 1 < gS σ 5 k) : ended σ k = true := by
  unfold ended
  rw [decide_eq_false h]
  rfl
theorem pn_t {σ : St} {b : Bool} {i : Nat} (h1 : gB σ 2 i = true) (h2 : b = true ∨ ended σ i = false) : mPF σ b i = uF σ i := by
  unfold mPF uF ovr
  rw [h1]
  rcases h2 with h2 | h2
  · rw [h2]
    cases gB σ 1 i <;> rfl
  · rw [h2]
    cases gB σ 1 i <;> cases b <;> rfl
theorem pn_f {σ : St} {b : Bool} {i : Nat} (h : gB σ 2 i = false ∨ (b = false ∧ ended σ i = true)) : mPF σ b i = 0 := by
  unfold mPF ovr
  rcases h with h | ⟨h1, h2⟩
  · rw [h]
    cases gB σ 1 i <;> rfl
  · rw [h1, h2]
    cases gB σ 1 i <;> cases gB σ 2 i <;> rfl
theorem bef_n {σ : St} {t y : Nat} (h : ¬ (gT σ 6 t < gT σ 6 y ∨ (gT σ 6 t = gT σ 6 y ∧ gT σ 7 t < gT σ 7 y))) : bef σ t y = false := by
  cases hb : bef σ t y with
  | false => rfl
  | true =>
    unfold bef at hb
    simp only [Bool.or_eq_true, Bool.and_eq_true, decide_eq_true_eq] at hb
    exact absurd hb h
theorem bef_y {σ : St} {t y : Nat} (h : gT σ 6 t < gT σ 6 y ∨ (gT σ 6 t = gT σ 6 y ∧ gT σ 7 t < gT σ 7 y)) : bef σ t y = true := by
  unfold bef
  simp only [Bool.or_eq_true, Bool.and_eq_true, decide_eq_true_eq]
  exact h
theorem uF_pos {σ : St} {k : Nat} (h : Sz σ) (hk : k < 32) : 0 < uF σ k ↔ gB σ 1 k = true := by
  unfold uF
  cases hb : gB σ 1 k with
  | false =>
    rw [if_neg (by decide)]
    exact ⟨fun q => absurd q (by decide), fun q => by cases q⟩
  | true =>
    rw [if_pos rfl]
    refine ⟨fun _ => rfl, fun _ => ?_⟩
    have h1 := h k hk hb
    rw [Int32.lt_iff_toInt_lt, i0]
    omega
theorem uF_z {σ : St} {k : Nat} (h : Sz σ) (hk : k < 32) : uF σ k = 0 ↔ gB σ 1 k = false := by
  unfold uF
  cases hb : gB σ 1 k with
  | false =>
    rw [if_neg (by decide)]
    exact ⟨fun _ => rfl, fun _ => rfl⟩
  | true =>
    rw [if_pos rfl]
    refine ⟨fun q => ?_, fun q => by cases q⟩
    have h1 := h k hk hb
    rw [q, i0] at h1
    omega
theorem St_x {X Y : St} (h1 : ∀ j, gI X j = gI Y j) (h2 : ∀ j, gL X j = gL Y j) (h3 : ∀ j i, gS X j i = gS Y j i) (h4 : ∀ j i, gT X j i = gT Y j i) (h5 : ∀ j i, gB X j i = gB Y j i) : X = Y := by
  obtain ⟨a, b, c, d, e⟩ := X
  obtain ⟨a', b', c', d', e'⟩ := Y
  have e1 : a = a' := funext h1
  have e2 : b = b' := funext h2
  have e3 : c = c' := funext fun j => funext fun i => h3 j i
  have e4 : d = d' := funext fun j => funext fun i => h4 j i
  have e5 : e = e' := funext fun j => funext fun i => h5 j i
  rw [e1, e2, e3, e4, e5]
def lSetW (σ : St) (k : Nat) (pr : Int32) : St :=
  uT (uL (uT σ 6 k (gL σ 2 + 1000 * pr.toInt64 * (gS σ 4 k).toInt64 / (uF σ k).toInt64)) 5 (gL σ 5 + 1)) 7 k (gL σ 5 + 1)
theorem lSetW_eq {σ : St} {k : Nat} (pr : Int32) (hb : gB σ 1 k = true) (hz : 1 ≤ (gS σ 3 k).toInt) : lSetW σ k pr = cSetW σ k pr := by
  have e1 : ¬ gS σ 3 k < 1 := by
    rw [Int32.lt_iff_toInt_lt]
    have : (1 : Int32).toInt = 1 := by decide
    omega
  have e2 : uF σ k = gS σ 3 k := by unfold uF; rw [if_pos hb]
  have e3 : 1000 * pr.toInt64 * (gS σ 4 k).toInt64 = 1000 * (gS σ 4 k).toInt64 * pr.toInt64 := by rw [Int64.mul_assoc, Int64.mul_comm pr.toInt64, ← Int64.mul_assoc]
  unfold lSetW cSetW
  rw [if_neg e1, e2, e3]
  refine St_x (fun _ => rfl) (fun _ => rfl) (fun _ _ => rfl) (fun j i => ?_) (fun _ _ => rfl)
  simp only [gT_u, gT_UL]
  by_cases p : j = 6
  · subst p
    simp
  · by_cases p7 : j = 7
    · subst p7
      simp
    · simp [p, p7]
theorem bef_e {X Y : St} (h : ∀ j i, gT X j i = gT Y j i) (a b : Nat) : bef X a b = bef Y a b := by
  unfold bef
  rw [h, h, h, h]
theorem cl_l (τ : St) (k : Nat) (L : List Nat) : wo k (L.filter (fun x => gB τ 1 x)) = L.filter (fun x => gB (uB τ 1 k false) 1 x) := by
  unfold wo
  rw [List.filter_filter]
  refine congrArg (fun q => List.filter q L) (funext fun x => ?_)
  rw [gB_up, if_pos rfl]
  by_cases q : x = k
  · simp [q]
  · simp [q]
theorem cl_0 {σ : St} {L : List Nat} (h : SR σ (inO σ) L) : L.filter (fun x => gB (rmS σ 0) 1 x) = L :=
  List.filter_eq_self.mpr (fun x hx => (inO_B ((h.1 x).mp hx).2).1)
theorem cl_ok {σ : St} {L : List Nat} (h : SR σ (inO σ) L) : SR (rmO σ) (inO (rmO σ)) (L.filter (fun x => gB (rmS σ 32) 1 x)) := by
  refine sr_cg (sr_flt h (fun x => gB (rmS σ 32) 1 x)) (fun k hk => ?_) (fun i j _ _ _ _ q => by rw [bef_e (rmO_T σ)]; exact q)
  unfold inO
  rw [rmO_B2 σ 2 k (by decide), rmO_B1 σ hk, (rmS_f σ 32).2.2.2.2.2 k]
  cases gB σ 1 k <;> cases gB σ 2 k <;> simp [hk]
theorem sr_rm {σ X : St} {L : List Nat} {k : Nat} (h : SR σ (inO σ) L) (hT : ∀ j i, gT X j i = gT σ j i) (hB : ∀ j i, gB X j i = gB (uB σ 1 k false) j i) : SR X (inO X) (wo k L) := by
  refine sr_cg (sr_flt h (fun x => decide (x ≠ k))) (fun i _ => ?_) (fun i j _ _ _ _ q => by rw [bef_e hT]; exact q)
  unfold inO
  rw [hB, hB, gB_up, gB_up, if_pos rfl, if_neg (show ¬ (2 : Nat) = 1 by decide)]
  by_cases q : i = k
  · simp [q]
  · simp [q]
theorem T_lS {X : St} {k : Nat} {pr : Int32} {i : Nat} (h : i ≠ k) (a : Nat) : gT (lSetW X k pr) a i = gT X a i := by
  unfold lSetW
  simp only [gT_u, gT_UL, if_neg h]
  by_cases p : a = 7
  · subst p
    simp
  · by_cases p6 : a = 6
    · subst p6
      simp
    · simp [p, p6]
theorem sr_cnt {X : St} {P : Nat → Bool} {L : List Nat} {k : Nat} {pr : Int32} {n : Nat} (h : SR X P L) (hn : n < 2 ^ 30) (h5 : 0 ≤ (gL X 5).toInt ∧ (gL X 5).toInt ≤ (n : Int)) (h7 : ∀ x, x ∈ L → (gT X 7 x).toInt ≤ (gL X 5).toInt) : SR (lSetW X k pr) (fun x => P x && decide (x ≠ k)) (wo k L) ∧ ∀ x, x ∈ wo k L → gT (lSetW X k pr) 7 x ≠ gT (lSetW X k pr) 7 k := by
  refine ⟨sr_cg (sr_flt h (fun x => decide (x ≠ k))) (fun _ _ => rfl) (fun i j _ _ hi hj q => ?_), fun x hx => ?_⟩
  · simp only [Bool.and_eq_true, decide_eq_true_eq] at hi hj
    unfold bef
    rw [T_lS hi.2, T_lS hj.2, T_lS hi.2, T_lS hj.2]
    exact q
  · have h1 := List.mem_filter.mp hx
    have h2 : x ≠ k := of_decide_eq_true h1.2
    rw [T_lS h2]
    have e1 : gT (lSetW X k pr) 7 k = gL X 5 + 1 := by
      unfold lSetW
      rw [gT_u, if_pos rfl, if_pos rfl]
    have o1 : (1 : Int64).toInt = 1 := by decide
    have e2 : (gL X 5 + 1).toInt = (gL X 5).toInt + 1 := by
      rw [l_add (by omega) (by omega), o1]
    have h3 := h7 x h1.1
    rw [e1]
    intro z
    have z2 : (gT X 7 x).toInt = (gL X 5 + 1).toInt := by rw [z]
    omega
theorem mLv1_V {n : Nat} {σ : St} (h : V n σ) (k : Nat) : V n (mLv1 σ k) := h.of (fun i _ b => by
  have b : gB (uB σ 1 k false) 1 i = true := b
  rw [gB_up, if_pos rfl] at b
  by_cases q : i = k
  · rw [if_pos q] at b; cases b
  · rw [if_neg q] at b; exact ⟨b, rfl, rfl⟩) h.2.1 rfl (fun _ => rfl)
theorem V_cq {n : Nat} {X Y : St} (h : Cq X Y) (hV : V n Y) : V n X := by
  obtain ⟨h1, h2, h3, h4, h5⟩ := h
  obtain ⟨a1, a2, a3, a4, a5, a6⟩ := hV
  refine ⟨fun k hk b => ?_, by rw [h1 3 (by decide)]; exact a2, fun k hk b => ?_, by rw [L_e h2 5]; exact a4, fun i j hi hj bi bj e => ?_, fun k hk => by rw [h3 0 k (by decide)]; exact a6 k hk⟩
  · rw [B_e h5 1 k] at b
    rw [h3 3 k (by decide)]
    exact a1 k hk b
  · rw [B_e h5 1 k] at b
    rw [T_e h4 7 k, L_e h2 5]
    exact a3 k hk b
  · rw [B_e h5 1 i] at bi
    rw [B_e h5 1 j] at bj
    rw [T_e h4 7 i, T_e h4 7 j]
    exact a5 i j hi hj bi bj e
theorem fetch_V {n : Nat} {σ : St} {k : Nat} {z pr lf : Int32} (hV : V n σ) (hn : n < 2 ^ 30) (hk : k < 32) (hz : 1 ≤ z.toInt ∧ z.toInt ≤ 1000) : V (n + 1) (cFetch σ k z pr lf).2 := by
  obtain ⟨N, τ, -, -, h1, h2, -⟩ := fetch_ok (pr := pr) (lf := lf) hV hn hk hz
  exact V_cq h1 h2
theorem room_no {n : Nat} {ρ : St} {z : Int32} (hV : V n ρ) (hz : 1 ≤ z.toInt ∧ z.toInt ≤ 1000) (h : ¬ gI ρ 3 < used ρ + z) : cRoom ρ z = (true, ρ) := by
  have g1 := gt_sub (used_b hV.1) hV.2.1 hz
  have hr : ¬ gI ρ 3 - z < used ρ := fun q => h (g1.1.mpr q)
  unfold cRoom cHasRoom
  rw [if_pos (by simp [hr])]
theorem room_yes {n : Nat} {ρ : St} {z : Int32} (hV : V n ρ) (hz : 1 ≤ z.toInt ∧ z.toInt ≤ 1000) (h : gI ρ 3 < used ρ + z) : (gI (rmO ρ) 3 < mPin (rmO ρ) true + z → cRoom ρ z = (false, rmO ρ)) ∧ (¬ gI (rmO ρ) 3 < mPin (rmO ρ) true + z → ∃ (N : Nat) (τ : Nat → St), τ 0 = rmO ρ ∧ mRun (fun s => gI s 3 < used s + z) N τ ∧ cRoom ρ z = (true, τ N)) := by
  obtain ⟨N, τ, h1, h2, h3⟩ := room_ok hV hz
  have m0 : mRoom0 ρ z = rmO ρ := by unfold mRoom0; rw [if_pos h]
  rw [m0] at h1 h2
  refine ⟨fun q => ?_, fun q => ?_⟩
  · rw [h2, if_pos q]
  · rcases h1 with h1 | ⟨h1, h4⟩
    · exact absurd h1 q
    · exact ⟨N, τ, h1, h4, by rw [h2, if_neg q]⟩
theorem soon_ok {σ : St} {k : Nat} (h8 : -1 ≤ (gS σ 8 k).toInt ∧ (gS σ 8 k).toInt ≤ 1073741824) (h1 : 0 ≤ (gI σ 1).toInt ∧ (gI σ 1).toInt ≤ 1073741824) : (0 < gS σ 8 k + 1 ↔ ¬ gS σ 8 k = -1) ∧ (gI σ 1 - (gS σ 8 k + 1) + 1 < 51 ↔ ¬ 50 < gI σ 1 - gS σ 8 k) := by
  have o1 : (1 : Int32).toInt = 1 := by decide
  have om : (-1 : Int32).toInt = -1 := by decide
  have o51 : (51 : Int32).toInt = 51 := by decide
  have o50 : (50 : Int32).toInt = 50 := by decide
  have e1 : (gS σ 8 k + 1).toInt = (gS σ 8 k).toInt + 1 := by rw [i_add (by omega) (by omega), o1]
  have e2 : (gI σ 1 - (gS σ 8 k + 1)).toInt = (gI σ 1).toInt - ((gS σ 8 k).toInt + 1) := by rw [i_sub (by omega) (by omega), e1]
  have e3 : (gI σ 1 - (gS σ 8 k + 1) + 1).toInt = (gI σ 1).toInt - ((gS σ 8 k).toInt + 1) + 1 := by rw [i_add (by omega) (by omega), e2, o1]
  have e4 : (gI σ 1 - gS σ 8 k).toInt = (gI σ 1).toInt - (gS σ 8 k).toInt := i_sub (by omega) (by omega)
  rw [Int32.lt_iff_toInt_lt, Int32.lt_iff_toInt_lt, Int32.lt_iff_toInt_lt, e1, e3, e4, i0, o51, o50, ← Int32.toInt_inj, om]
  omega
/-! ===== what would leave ===== -/
theorem sub_u (σ : St) (i : Nat) : (if ovr σ i then gS σ 3 i else 0) = (if ended σ i then uF σ i else 0) := by
  unfold ovr uF
  cases gB σ 1 i <;> cases ended σ i <;> rfl
theorem mWl_r {σ : St} {L : List Nat} (hO : Ord σ) (h : SR σ (inO σ) L) {n k : Nat} (hn : n < 32) (e : L[n]? = some k) : mWl σ (n + 1) = ((mWl σ n).1 - (if ended σ k then 0 else uF σ k), (mWl σ n).2 + (if ended σ k then 0 else 1)) := by
  have hk := (h.1 k).mp (List.mem_of_getElem? e)
  rw [mWl_s, at_nth hO (by omega), nth_row hO h n, e]
  show ((mWl σ n).1 - (if ovr σ k then 0 else gS σ 3 k), (mWl σ n).2 + (if ovr σ k then 0 else 1)) = _
  rw [ovr_in hk.2]
  have e2 : uF σ k = gS σ 3 k := by unfold uF; rw [if_pos (inO_B hk.2).1]
  rw [e2]
theorem pF_gW {σ : St} (h : Sz σ) (n i : Nat) (hi : i < 32) : 0 ≤ (pF σ i).toInt ∧ (pF σ i).toInt ≤ (gW σ n i).toInt ∧ (gW σ n i).toInt ≤ 1000 := by
  have h1 := nF_b h i hi
  have h2 := uF_b h i hi
  have h3 := pF_b h i hi
  unfold gW
  by_cases c : (inO σ i && decide (rank σ i < n)) = true
  · rw [if_pos c]
    simp only [Bool.and_eq_true] at c
    have h4 : pF σ i = 0 := by
      unfold pF
      rw [(inO_B c.1).2]
      simp
    rw [h4, i0]
    omega
  · rw [if_neg c]
    refine ⟨h3.1, ?_, by omega⟩
    have h4 : pF σ i = nF σ i ∨ pF σ i = 0 := by
      unfold pF nF
      cases gB σ 1 i <;> cases gB σ 2 i <;> cases ended σ i <;> simp
    rcases h4 with h4 | h4
    · rw [h4]
      exact Int.le_refl _
    · rw [h4, i0]
      exact h1.1
theorem wd_ok {n : Nat} {σ : St} {L : List Nat} {t : Int32} {j : Nat} (hV : V n σ) (hS : SR σ (inO σ) L) (ht : 1 ≤ t.toInt ∧ t.toInt ≤ 1000) (hu : gI σ 3 < used σ + t) (hj : j ≤ L.length) (h1 : ∀ i, i < j → gI σ 3 < (mWl σ i).1 + t) (h2 : j = L.length ∨ ¬ gI σ 3 < (mWl σ j).1 + t) : (if gI σ 3 < (mWl σ j).1 + t then (-1 : Int32) else (mWl σ j).2) = cWould σ t := by
  have hO := hV.ord
  have hlen := sr_len hS
  obtain ⟨N, h3, h4⟩ := would_ok hV ht
  rw [h4, if_pos hu]
  rcases h3 with h3 | h3 | ⟨h3, h5⟩
  · exact absurd hu h3
  · rw [if_pos h3]
    have hmono : (pinA σ).toInt ≤ (mWl σ j).1.toInt := by
      rw [mWl_sum hO j (by omega)]
      exact sumI_le (n := 32) (Nat.le_refl _) (pF_gW hV.1 j)
    have hb : 0 ≤ (mWl σ j).1.toInt ∧ (mWl σ j).1.toInt ≤ 32000 := by
      rw [mWl_sum hO j (by omega)]
      exact gW_b hV.1 j
    have hp := pinA_b hV.1
    have hc : gI σ 3 < (mWl σ j).1 + t := by
      rw [mPinF] at h3
      rw [Int32.lt_iff_toInt_lt, i_add (by omega) (by omega)] at h3 ⊢
      omega
    rw [if_pos hc]
  · have hNL : ∀ i, i < N → i < L.length := fun i hi => by
      obtain ⟨-, k, hk, e⟩ := h3 i hi
      have hi31 : i < 2 ^ 31 ∨ 2 ^ 31 ≤ i := Nat.lt_or_ge _ _
      rcases Nat.lt_or_ge i L.length with g | g
      · exact g
      · exfalso
        obtain ⟨-, k2, hk2, e2⟩ := h3 L.length (by omega)
        rw [at_nth hO (by omega), nth_row hO hS, List.getElem?_eq_none (Nat.le_refl _)] at e2
        cases e2
    have hjN : j = N := by
      rcases Nat.lt_or_ge j N with g | g
      · rcases h2 with h2 | h2
        · have := hNL j g
          omega
        · exact absurd (h3 j g).1 h2
      · rcases Nat.lt_or_ge N j with g2 | g2
        · exact absurd (h1 N g2) h5
        · omega
    subst hjN
    have hnp : ¬ gI σ 3 < mPin σ false + t := by
      intro q
      have hmono : (pinA σ).toInt ≤ (mWl σ j).1.toInt := by
        rw [mWl_sum hO j (by omega)]
        exact sumI_le (n := 32) (Nat.le_refl _) (pF_gW hV.1 j)
      have hb : 0 ≤ (mWl σ j).1.toInt ∧ (mWl σ j).1.toInt ≤ 32000 := by
        rw [mWl_sum hO j (by omega)]
        exact gW_b hV.1 j
      have hp := pinA_b hV.1
      refine h5 ?_
      rw [mPinF] at q
      rw [Int32.lt_iff_toInt_lt, i_add (by omega) (by omega)] at q ⊢
      omega
    rw [if_neg h5, if_neg hnp]
theorem wd_no {n : Nat} {σ : St} {t : Int32} (hV : V n σ) (ht : 1 ≤ t.toInt ∧ t.toInt ≤ 1000) (hu : ¬ gI σ 3 < used σ + t) : cWould σ t = 0 := by
  obtain ⟨N, h3, h4⟩ := would_ok hV ht
  rw [h4, if_neg hu]
