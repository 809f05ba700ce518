/-! ===== the law's rows ===== -/
theorem and31 (x : Int32) : ∃ j, j < 32 ∧ x &&& 31 = nI j := by
  refine ⟨(x &&& 31).toBitVec.toNat, ?_, ?_⟩
  · rw [Int32.toBitVec_and, BitVec.toNat_and]
    have h : (31 : Int32).toBitVec.toNat = 31 := by decide
    rw [h]
    exact Nat.lt_succ_of_le Nat.and_le_right
  · apply Int32.toBitVec_inj.mp
    show _ = BitVec.ofNat 32 _
    rw [BitVec.ofNat_toNat]
    simp
theorem nI_ad (i : Nat) : ∀ k, nI i + nI k = nI (i + k)
  | 0 => Int32.add_zero _
  | k + 1 => by
    rw [nI_succ, ← Int32.add_assoc, nI_ad i k, ← nI_succ]
    rfl
abbrev tA (cO cL cI cJ cZ : ClassId) : List (ClassId × FieldType) := [(cO, .object RX0), (cL, .long), (cI, .int), (cJ, .long), (cZ, .boolean)]
abbrev wA (ax ar : Nat) (ad : Nat → Nat) (cO : ClassId) (bo : Nat) (cL : ClassId) (bx : Nat) (ba : Nat → Nat) (cI cJ cZ : ClassId) (σ : St) (v : Int64) : va_W := (cW ax ar ad cO σ ++ oW bo cL v) ++ mW bx ba cI cJ cZ σ
def LC (p : Program) (l : Launch) (s : State) (m : MethodId) (meth : Method) (c : Code) (A : Nat → Prop) (D : va_G) (cO cL cI cJ cZ : ClassId) (b L : Nat) (xs : Nat → Int32) : Prop :=
  p.tables.exec = Jvm.exec ∧ c.code = cL_law ∧ c.maxLocals = 8 ∧ s.vm.findClass RL = some m.cls ∧ (∀ w ∈ wsL_law, w.before #[Value.ref b] s = true) ∧ xE A s s.heap ∧ va_K D vwCl (tA cO cL cI cJ cZ) s ∧ (∀ q, s.heap.size ≤ q → A q) ∧ va_X b L xs s s.heap ∧ b < s.heap.size ∧ ¬ A b ∧ l.stackTraces = false ∧ L ≤ 2560 ∧ meth.locks = false
section XL
variable {p : Program} {l : Launch} {e : Env} {R : Room} {s : State} {m : MethodId} {args : Array Value} {below : List Frame} {meth : Method} {c : Code} {H : Heap} {locs : List Loc} {cells slots : Nat} {Q : State → Prop}
variable {cc : ByteArray} {pc : Nat} {ls : Array Slot} {rest : List Value} {A0 : Nat → Prop} {b L : Nat} {xs : Nat → Int32}
theorem s_arg (hx : p.tables.exec = Jvm.exec) (hb : c.code = cc) (hX : va_X b L xs s s.heap) (hbl : b < s.heap.size) (hbA : ¬ A0 b) (hS : va_S A0 s.heap H locs) (hL : L ≤ 2560) {i k : Nat} {z : Int} (hik : i + k < L) (h0 : ls[0]? = some (.val (.ref b))) (h4 : ls[4]? = some (.val (.int (nI i)))) (hz : Int32.ofInt z = nI k) (d0 : decode cc pc = .ok (.aload_n 0, 1)) (d1 : decode cc (pc + 1) = .ok (.iload 4, 2)) (d2 : decode cc (pc + 1 + 2) = .ok (.iconst z, 1)) (d3 : decode cc (pc + 1 + 2 + 1) = .ok (.iadd, 1)) (d4 : decode cc (pc + 1 + 2 + 1 + 1) = .ok (.iaload, 1))
    (kk : W p l e R s m args below meth c H locs cells slots Q (F0 m (pc + 1 + 2 + 1 + 1 + 1) ls (.int (xs (i + k)) :: rest))) : W p l e R s m args below meth c H locs cells slots Q (F0 m pc ls rest) := by
  refine lv_aload_n hx hb d0 rfl h0 ?_
  refine lv_iload hx hb d1 h4 ?_
  refine lv_iconst (v := nI k) hx hb d2 hz ?_
  refine lv_iadd hx hb d3 ?_
  rw [nI_ad]
  refine va_sld hx hb hX hbl hbA hS (vp_in_nI hik (by omega)) d4 ?_
  rw [nI_clamp (by omega)]
  exact kk
theorem s_b01 (hx : p.tables.exec = Jvm.exec) (hb : c.code = cc) {x : Int32} (d0 : decode cc pc = .ok (.ifCond .eq 7, 3)) (d1 : decode cc (pc + 3) = .ok (.iconst 1, 1)) (d2 : decode cc (pc + 3 + 1) = .ok (.goto 4, 3)) (d3 : decode cc (pc + 7) = .ok (.iconst 0, 1))
    (kk : W p l e R s m args below meth c H locs cells slots Q (F0 m (pc + 7 + 1) ls (.int (bI (!decide (x = 0))) :: rest))) : W p l e R s m args below meth c H locs cells slots Q (F0 m pc ls (.int x :: rest)) := by
  refine lv_if_eq (tgt := pc + 7) hx hb d0 (by omega) (fun c1 => ?_) (fun c1 => ?_)
  · refine lv_iconst (v := 0) hx hb d3 (by decide) ?_
    have e : bI (!decide (x = 0)) = 0 := by simp [c1, bI]
    rw [e] at kk
    exact kk
  · refine lv_iconst (v := 1) hx hb d1 (by decide) ?_
    refine lv_goto (tgt := pc + 7 + 1) hx hb d2 (by omega) ?_
    have e : bI (!decide (x = 0)) = 1 := by simp [c1, bI]
    rw [e] at kk
    exact kk
theorem s_l01 (hx : p.tables.exec = Jvm.exec) (hb : c.code = cc) {x : Int32} (d0 : decode cc pc = .ok (.ifCond .eq 7, 3)) (d1 : decode cc (pc + 3) = .ok (.lconst 1, 1)) (d2 : decode cc (pc + 3 + 1) = .ok (.goto 4, 3)) (d3 : decode cc (pc + 7) = .ok (.lconst 0, 1))
    (kk : W p l e R s m args below meth c H locs cells slots Q (F0 m (pc + 7 + 1) ls (.long (if x = 0 then 0 else 1) :: rest))) : W p l e R s m args below meth c H locs cells slots Q (F0 m pc ls (.int x :: rest)) := by
  refine lv_if_eq (tgt := pc + 7) hx hb d0 (by omega) (fun c1 => ?_) (fun c1 => ?_)
  · refine lv_lconst (v := 0) hx hb d3 (by decide) ?_
    rw [if_pos c1] at kk
    exact kk
  · refine lv_lconst (v := 1) hx hb d1 (by decide) ?_
    refine lv_goto (tgt := pc + 7 + 1) hx hb d2 (by omega) ?_
    rw [if_neg c1] at kk
    exact kk
end XL
theorem P_a {D : va_G} {a b c : va_W} {H : Heap} (h : va_P D vwCl ((a ++ b) ++ c) H) : va_P D vwCl (a ++ (b ++ c)) H := by rw [List.append_assoc] at h; exact h
theorem P_b {D : va_G} {a b c : va_W} {H : Heap} (h : va_P D vwCl (a ++ (b ++ c)) H) : va_P D vwCl ((a ++ b) ++ c) H := by rw [List.append_assoc]; exact h
theorem D_a {A : Nat → Prop} {a b c : va_W} (h : va_D A ((a ++ b) ++ c)) : va_D A (a ++ (b ++ c)) := by rw [List.append_assoc] at h; exact h
theorem D_b {A : Nat → Prop} {a b c : va_W} (h : va_D A (a ++ (b ++ c))) : va_D A ((a ++ b) ++ c) := by rw [List.append_assoc]; exact h
theorem efR_uI (σ : St) (j : Nat) (v : Int32) : ∀ n, efR (uI σ j v) n = efR σ n
  | 0 => rfl
  | n + 1 => by
    rw [efR_s, efR_s, efR_uI σ j v n]
    have e : endO (uI σ j v) n (efR σ n) = endO σ n (efR σ n) := by cases efR σ n <;> rfl
    rw [e]
    rfl
theorem ends_ok {n : Nat} {σ : St} (h : V n σ) : cEnds (uI σ 20 0) = oI (efR σ 32) := by
  unfold cEnds
  rw [efR_uI]
  generalize e : efR σ 32 = o
  cases o with
  | none => rfl
  | some k => exact h.2.2.2.2.2 k (efR_lt σ 32 k e)
theorem ents_uI (σ : St) (j : Nat) (v : Int32) : ents (uI σ j v) = ents σ := congrArg (fun f => sumI f 32) (funext fun k => rfl)
