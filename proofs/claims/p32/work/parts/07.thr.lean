abbrev cT (cO : ClassId) : List (ClassId × FieldType) := [(cO, .object RX0)]
abbrev xNm : List String := ["java/lang/RuntimeException", "java/lang/Exception"]
theorem nI_inj32 {a b : Nat} (ha : a < 32) (hb : b < 32) (h : nI a = nI b) : a = b := (nI_eq (Nat.lt_trans ha (by decide)) (Nat.lt_trans hb (by decide))).mp h
theorem nI_lt32 {i : Nat} (h : i ≤ 32) : nI i < 32 ↔ i < 32 := nI_ltI (b := 32) (Nat.lt_of_le_of_lt h (by decide)) (by decide)
theorem isT_nI {x : Int32} (h : isT x = true) : ∃ k, k < 32 ∧ x = nI k := by
  simp only [isT, Bool.and_eq_true, Bool.not_eq_true', decide_eq_false_iff_not, decide_eq_true_eq] at h
  obtain ⟨j, hj, rfl⟩ := nI_of h.1
  exact ⟨j, (nI_ltI (b := 32) hj (by decide)).mp h.2, rfl⟩
theorem isT_of {k : Nat} (h : k < 32) : isT (nI k) = true := by
  have h1 : ¬ nI k < 0 := nI_pos (Nat.lt_trans h (by decide))
  have h2 : nI k < 32 := nI_lt (b := 32) h (by decide)
  simp [isT, h1, h2]
theorem x_thr {S : Type} {s : State} {D : va_G} {tys : List (ClassId × FieldType)} {w : S → va_W} {σ : S} {A0 : Nat → Prop} {H : Heap} {locs : List Loc} {xc : String → Prop} {En : String} (hK : va_K D vwCl tys s) (hP : va_P D vwCl (w σ) H) (hD : va_D A0 (w σ)) (hS : va_S A0 s.heap H locs) (h : xc En) {t : State} (hvm : s.vm.Alike t.vm) (hz : H.size ≤ t.heap.size) (hk : ∀ q : Nat, q < H.size → t.heap[q]? = H[q]?) : xXC D tys w A0 σ xc En s t :=
  ⟨(), trivial, ⟨h, hP.kept (fun k q hq => hk q.1 ((hP k q hq).lt)), va_K.moved hvm hK, hD⟩, Nat.le_trans hS.1 hz, fun q h1 h2 => (hk q (Nat.lt_of_lt_of_le h1 hS.1)).trans (hS.2.1 q h1 h2)⟩
theorem hat_IO {args : Array Value} {s : State} (h1 : ∀ w ∈ (vx_atS RX1 109 "java/lang/IndexOutOfBoundsException" ["java/lang/RuntimeException", "java/lang/Exception"]).filter goodWord, w.before args s = true) (hV : xV s) : ∀ w ∈ vx_atS RX1 109 "java/lang/IndexOutOfBoundsException" ["java/lang/RuntimeException", "java/lang/Exception"], w.before args s = true :=
  vx_hat (B := [.declares ⟨"java/lang/RuntimeException", "<init>", "(Ljava/lang/String;)V"⟩, .declares ⟨"java/lang/Exception", "<init>", "(Ljava/lang/String;)V"⟩, .declares ⟨"java/lang/Throwable", "<init>", "(Ljava/lang/String;)V"⟩, .castable "java/lang/IndexOutOfBoundsException" "java/lang/IndexOutOfBoundsException"]) h1 (by decide +kernel)
    (vx_c (va_Nw.use rfl (hV.2.2.1 _ (List.mem_of_getElem? (i := 0) rfl))) (vx_c (va_Nw.use rfl (hV.2.2.1 _ (List.mem_of_getElem? (i := 1) rfl))) (vx_c (va_Nw.use rfl (hV.2.2.1 _ (List.mem_of_getElem? (i := 2) rfl))) (vx_c (va_Nw.use rfl (hV.2.2.2.1 _ (List.mem_of_getElem? (i := 0) rfl))) vx_n))))
theorem hat_IA {args : Array Value} {s : State} (h1 : ∀ w ∈ (vx_atS RX1 155 "java/lang/IllegalArgumentException" ["java/lang/RuntimeException", "java/lang/Exception"]).filter goodWord, w.before args s = true) (hV : xV s) : ∀ w ∈ vx_atS RX1 155 "java/lang/IllegalArgumentException" ["java/lang/RuntimeException", "java/lang/Exception"], w.before args s = true :=
  vx_hat (B := [.declares ⟨"java/lang/RuntimeException", "<init>", "(Ljava/lang/String;)V"⟩, .declares ⟨"java/lang/Exception", "<init>", "(Ljava/lang/String;)V"⟩, .declares ⟨"java/lang/Throwable", "<init>", "(Ljava/lang/String;)V"⟩, .castable "java/lang/IllegalArgumentException" "java/lang/IllegalArgumentException"]) h1 (by decide +kernel)
    (vx_c (va_Nw.use rfl (hV.2.2.1 _ (List.mem_of_getElem? (i := 0) rfl))) (vx_c (va_Nw.use rfl (hV.2.2.1 _ (List.mem_of_getElem? (i := 1) rfl))) (vx_c (va_Nw.use rfl (hV.2.2.1 _ (List.mem_of_getElem? (i := 2) rfl))) (vx_c (va_Nw.use rfl (hV.2.2.2.1 _ (List.mem_of_getElem? (i := 1) rfl))) vx_n))))
theorem hat_IS {args : Array Value} {s : State} (h1 : ∀ w ∈ (vx_atS RX1 75 "java/lang/IllegalStateException" ["java/lang/RuntimeException", "java/lang/Exception"]).filter goodWord, w.before args s = true) (hV : xV s) : ∀ w ∈ vx_atS RX1 75 "java/lang/IllegalStateException" ["java/lang/RuntimeException", "java/lang/Exception"], w.before args s = true :=
  vx_hat (B := [.declares ⟨"java/lang/RuntimeException", "<init>", "(Ljava/lang/String;)V"⟩, .declares ⟨"java/lang/Exception", "<init>", "(Ljava/lang/String;)V"⟩, .declares ⟨"java/lang/Throwable", "<init>", "(Ljava/lang/String;)V"⟩, .castable "java/lang/IllegalStateException" "java/lang/IllegalStateException"]) h1 (by decide +kernel)
    (vx_c (va_Nw.use rfl (hV.2.2.1 _ (List.mem_of_getElem? (i := 0) rfl))) (vx_c (va_Nw.use rfl (hV.2.2.1 _ (List.mem_of_getElem? (i := 1) rfl))) (vx_c (va_Nw.use rfl (hV.2.2.1 _ (List.mem_of_getElem? (i := 2) rfl))) (vx_c (va_Nw.use rfl (hV.2.2.2.1 _ (List.mem_of_getElem? (i := 2) rfl))) vx_n))))
theorem hgd_IO : ∀ w ∈ Cond.classLink RX1 105 "java/lang/IndexOutOfBoundsException" :: Cond.initialized "java/lang/IndexOutOfBoundsException" :: vx_atS RX1 109 "java/lang/IndexOutOfBoundsException" ["java/lang/RuntimeException", "java/lang/Exception"], vx_ot w = true := by decide +kernel
theorem hgd_IA : ∀ w ∈ Cond.classLink RX1 151 "java/lang/IllegalArgumentException" :: Cond.initialized "java/lang/IllegalArgumentException" :: vx_atS RX1 155 "java/lang/IllegalArgumentException" ["java/lang/RuntimeException", "java/lang/Exception"], vx_ot w = true := by decide +kernel
theorem hgd_IS : ∀ w ∈ Cond.classLink RX1 71 "java/lang/IllegalStateException" :: Cond.initialized "java/lang/IllegalStateException" :: vx_atS RX1 75 "java/lang/IllegalStateException" ["java/lang/RuntimeException", "java/lang/Exception"], vx_ot w = true := by decide +kernel
theorem toI64_0 {x : Int32} (h : x.toInt64 = 0) : x = 0 := by
  apply Int32.toInt_inj.mp
  have h1 : x.toInt64.toInt = (0 : Int64).toInt := by rw [h]
  rw [Int32.toInt_toInt64] at h1
  exact h1
theorem va_rf_cat (r : Option Nat) : (va_rf r).category = 1 := by cases r <;> rfl
theorem nxtR_s (σ : St) (b : Option Nat) (i : Nat) : nxtR σ b (i + 1) = if inO σ i && beh σ b i && befO σ i (nxtR σ b i) then some i else nxtR σ b i := rfl
theorem efR_s (σ : St) (i : Nat) : efR σ (i + 1) = if gB σ 1 i && endO σ i (efR σ i) then some i else efR σ i := rfl
theorem sF_uI (σ : St) (j : Nat) (v : Int32) (k : Nat) : sF (uI σ j v) k = sF σ k := rfl
theorem sF_uL (σ : St) (j : Nat) (v : Int64) (k : Nat) : sF (uL σ j v) k = sF σ k := rfl
theorem cF_uS (ar : Nat) (σ : St) (j k : Nat) (v : Int32) : cF ar (uS σ j k v) = cF ar σ := rfl
theorem cF_uT (ar : Nat) (σ : St) (j k : Nat) (v : Int64) : cF ar (uT σ j k v) = cF ar σ := rfl
theorem cF_uB (ar : Nat) (σ : St) (j k : Nat) (v : Bool) : cF ar (uB σ j k v) = cF ar σ := rfl
theorem wlI_s (σ : St) (n : Nat) : wlI σ (n + 1) = match (wlI σ n).2.2 with
    | none => wlI σ n
    | some k => (if ended σ k then (wlI σ n).1 else (wlI σ n).1 - gS σ 3 k, if ended σ k then (wlI σ n).2.1 else (wlI σ n).2.1 + 1, nxt σ (some k)) := rfl
theorem wlI_lt {σ : St} {k : Nat} : ∀ {n : Nat}, (wlI σ n).2.2 = some k → k < 32
  | 0, h => nxt_lt h
  | n + 1, h => by
    rw [wlI_s] at h
    cases hc : (wlI σ n).2.2 with
    | none => rw [hc] at h; exact wlI_lt (n := n) h
    | some j => rw [hc] at h; exact nxt_lt h
theorem nth_s (σ : St) (n : Nat) : nth σ (n + 1) = match nth σ n with
    | none => none
    | some k => nxt σ (some k) := rfl
theorem nth_lt {σ : St} {k : Nat} : ∀ {n : Nat}, nth σ n = some k → k < 32
  | 0, h => nxt_lt h
  | n + 1, h => by
    rw [nth_s] at h
    cases hc : nth σ n with
    | none => rw [hc] at h; cases h
    | some j => rw [hc] at h; exact nxt_lt h
