/-! ===== a call in a greater world: the callee's part first ===== -/
theorem P_l {D : va_G} {cl : List vw_C} {a b : va_W} {H : Heap} (h : va_P D cl (a ++ b) H) : va_P D cl a H := fun k q hk => h k q (by rw [List.getElem?_append_left (List.getElem?_eq_some_iff.mp hk).1]; exact hk)
theorem P_r {D : va_G} {cl : List vw_C} {a b : va_W} {H : Heap} (h : va_P D cl (a ++ b) H) : va_P D cl b H := fun k q hk => h (a.length + k) q (by rw [List.getElem?_append_right (by omega)]; rw [show a.length + k - a.length = k by omega]; exact hk)
theorem P_c {D : va_G} {cl : List vw_C} {a b : va_W} {H : Heap} (h : va_P D cl (a ++ b) H) : va_P D cl (b ++ a) H := va_P.app (P_r h) (P_l h)
theorem D_lk {a b : va_W} {k : Nat} {q : Nat × va_E} (hk : a[k]? = some q) : (a ++ b)[k]? = some q := by rw [List.getElem?_append_left (List.getElem?_eq_some_iff.mp hk).1]; exact hk
theorem D_rk {a b : va_W} {k : Nat} {q : Nat × va_E} (hk : b[k]? = some q) : (a ++ b)[a.length + k]? = some q := by rw [List.getElem?_append_right (by omega)]; rw [show a.length + k - a.length = k by omega]; exact hk
theorem D_l {A : Nat → Prop} {a b : va_W} (h : va_D A (a ++ b)) : va_D A a := ⟨fun i j p q hp hq e => h.1 i j p q (D_lk hp) (D_lk hq) e, fun k q hk => h.2 k q (D_lk hk)⟩
theorem D_r {A : Nat → Prop} {a b : va_W} (h : va_D A (a ++ b)) : va_D A b := ⟨fun i j p q hp hq e => by have := h.1 _ _ p q (D_rk hp) (D_rk hq) e; omega, fun k q hk => h.2 _ q (D_rk hk)⟩
theorem D_x {A : Nat → Prop} {a b : va_W} (h : va_D A (a ++ b)) (i j : Nat) (p q : Nat × va_E) (hp : a[i]? = some p) (hq : b[j]? = some q) : p.1 ≠ q.1 := fun e => by
  have h1 := h.1 _ _ p q (D_lk hp) (D_rk hq) e
  have h2 := (List.getElem?_eq_some_iff.mp hp).1
  omega
theorem D_c {A : Nat → Prop} {a b : va_W} (h : va_D A (a ++ b)) : va_D A (b ++ a) := va_D.app (D_r h) (D_l h) (fun i j p q hp hq e => D_x h j i q p hq hp e.symm)
theorem f_join {A0 : Nat → Prop} {D : va_G} {wc wr w1 : va_W} {H H1 : Heap} (hP : va_P D vwCl (wc ++ wr) H) (hD : va_D A0 (wc ++ wr)) (hk : ∀ q : Nat, q < H.size → ¬ va_A wc H.size q → H1[q]? = H[q]?) (hF : ∀ q, va_A wc H.size q → A0 q) (hP1 : va_P D vwCl w1 H1) (hD1 : va_D (va_A wc H.size) w1) : va_P D vwCl (w1 ++ wr) H1 ∧ va_D A0 (w1 ++ wr) := by
  have apart : ∀ (k : Nat) (q : Nat × va_E), wr[k]? = some q → q.1 < H.size ∧ ¬ va_A wc H.size q.1 := by
    intro k q hq
    have hl := ((P_r hP) k q hq).lt
    refine ⟨hl, fun h => ?_⟩
    rcases h with ⟨k2, e, h⟩ | h
    · exact D_x hD k2 k (q.1, e) q h hq rfl
    · omega
  refine ⟨va_P.app hP1 (fun k q hq => ((P_r hP) k q hq).kept (hk q.1 (apart k q hq).1 (apart k q hq).2)), va_D.app (hD1.weaken (fun k q _ h => hF q.1 h)) (D_r hD) (fun i j x y hx hy hxy => ?_)⟩
  exact (apart j y hy).2 (by rw [← hxy]; exact hD1.2 i x hx)
section XF
variable {p : Program} {l : Launch} {e : Env} {R : Room} {s : State} {m : MethodId} {args : Array Value} {below : List Frame} {meth : Method} {c : Code} {H : Heap} {locs : List Loc} {cells slots : Nat} {Q : State → Prop}
variable {cc : ByteArray} {pc : Nat} {ls : Array Slot} {rest st0 : List Value} {D : va_G} {tys : List (ClassId × FieldType)} {A0 : Nat → Prop} {wr : va_W}
theorem f_calli {S : Type} {w : S → va_W} {σ : S} {post : Int32 → S → Prop} {mc ms : Nat} {av : Array Value} (hr : va_Run p l e R s m args below meth c H locs cells slots mc ms (F0 m pc ls st0) rest (va_Qi post (xB D tys w (va_A (w σ) H.size)) (va_A (w σ) H.size) av) (va_A (w σ) H.size)) (hP : va_P D vwCl (w σ ++ wr) H) (hD : va_D A0 (w σ ++ wr)) (hS : va_S A0 s.heap H locs) (hA : ∀ q, s.heap.size ≤ q → A0 q)
    (kk : ∀ (r : Int32) (u : S) (H1 : Heap) (locs1 : List Loc), post r u → va_P D vwCl (w u ++ wr) H1 → va_D A0 (w u ++ wr) → va_S A0 s.heap H1 locs1 → W p l e R s m args below meth c H1 locs1 (cells + mc) (slots + ms) Q (F0 m (pc + 3) ls (.int r :: rest))) : W p l e R s m args below meth c H locs cells slots Q (F0 m pc ls st0) :=
  va_calli hr hS (fun q _ h => xA_in (D_l hD) hS hA q h) (xA_in (D_l hD) hS hA) (fun r u t H1 locs1 ht hvm hp hB hz hk hS1 => by
    obtain ⟨hP1, -, hD1⟩ := hB
    rw [ht] at hP1
    obtain ⟨g1, g2⟩ := f_join hP hD hk (xA_in (D_l hD) hS hA) hP1 hD1
    exact kk r u H1 locs1 hp g1 g2 hS1)
theorem ff_calli {S : Type} {w : S → va_W} {σ : S} {post : Int32 → S → Prop} {xc : String → Prop} {mc ms : Nat} {av : Array Value} (hr : vx_Run p l e R s m args below meth c H locs cells slots mc ms (F0 m pc ls st0) rest (va_Qi post (xB D tys w (va_A (w σ) H.size)) (va_A (w σ) H.size) av) (xXC D tys w (va_A (w σ) H.size) σ xc) (va_A (w σ) H.size)) (hP : va_P D vwCl (w σ ++ wr) H) (hD : va_D A0 (w σ ++ wr)) (hS : va_S A0 s.heap H locs) (hA : ∀ q, s.heap.size ≤ q → A0 q)
    (kx : ∀ (En : String) (ce : Cell) (q9 : Addr) (H1 : Heap) (locs1 : List Loc), xc En → va_P D vwCl (w σ ++ wr) H1 → va_S A0 s.heap H1 locs1 → H1[q9]? = some ce → ce.vm = .none → s.vm.findClass En = some ce.cls → vx_W p l e R s m args below meth c H1 locs1 (cells + mc) (slots + ms) Q (F0 m pc ls rest) q9)
    (kk : ∀ (r : Int32) (u : S) (H1 : Heap) (locs1 : List Loc), post r u → va_P D vwCl (w u ++ wr) H1 → va_D A0 (w u ++ wr) → va_S A0 s.heap H1 locs1 → W p l e R s m args below meth c H1 locs1 (cells + mc) (slots + ms) Q (F0 m (pc + 3) ls (.int r :: rest))) : W p l e R s m args below meth c H locs cells slots Q (F0 m pc ls st0) :=
  vx_calli hr hS (fun q _ h => xA_in (D_l hD) hS hA q h) (xA_in (D_l hD) hS hA) (fun q _ h => xA_in (D_l hD) hS hA q h) (fun En ce q9 u t H1 locs1 ht hvm _ hB hz hk hS1 h1 h2 h3 => by
    obtain ⟨hxc, hP1, -, hD1⟩ := hB
    rw [ht] at hP1
    obtain ⟨g1, -⟩ := f_join hP hD hk (xA_in (D_l hD) hS hA) hP1 hD1
    exact kx En ce q9 H1 locs1 hxc g1 hS1 h1 h2 h3) (fun r u t H1 locs1 ht hvm hp hB hz hk hS1 => by
    obtain ⟨hP1, -, hD1⟩ := hB
    rw [ht] at hP1
    obtain ⟨g1, g2⟩ := f_join hP hD hk (xA_in (D_l hD) hS hA) hP1 hD1
    exact kk r u H1 locs1 hp g1 g2 hS1)
theorem f_calll {S : Type} {w : S → va_W} {σ : S} {post : Int64 → S → Prop} {mc ms : Nat} {av : Array Value} (hr : va_Run p l e R s m args below meth c H locs cells slots mc ms (F0 m pc ls st0) rest (va_Ql post (xB D tys w (va_A (w σ) H.size)) (va_A (w σ) H.size) av) (va_A (w σ) H.size)) (hP : va_P D vwCl (w σ ++ wr) H) (hD : va_D A0 (w σ ++ wr)) (hS : va_S A0 s.heap H locs) (hA : ∀ q, s.heap.size ≤ q → A0 q)
    (kk : ∀ (r : Int64) (u : S) (H1 : Heap) (locs1 : List Loc), post r u → va_P D vwCl (w u ++ wr) H1 → va_D A0 (w u ++ wr) → va_S A0 s.heap H1 locs1 → W p l e R s m args below meth c H1 locs1 (cells + mc) (slots + ms) Q (F0 m (pc + 3) ls (.long r :: rest))) : W p l e R s m args below meth c H locs cells slots Q (F0 m pc ls st0) :=
  va_calll hr hS (fun q _ h => xA_in (D_l hD) hS hA q h) (xA_in (D_l hD) hS hA) (fun r u t H1 locs1 ht hvm hp hB hz hk hS1 => by
    obtain ⟨hP1, -, hD1⟩ := hB
    rw [ht] at hP1
    obtain ⟨g1, g2⟩ := f_join hP hD hk (xA_in (D_l hD) hS hA) hP1 hD1
    exact kk r u H1 locs1 hp g1 g2 hS1)
theorem ff_calll {S : Type} {w : S → va_W} {σ : S} {post : Int64 → S → Prop} {xc : String → Prop} {mc ms : Nat} {av : Array Value} (hr : vx_Run p l e R s m args below meth c H locs cells slots mc ms (F0 m pc ls st0) rest (va_Ql post (xB D tys w (va_A (w σ) H.size)) (va_A (w σ) H.size) av) (xXC D tys w (va_A (w σ) H.size) σ xc) (va_A (w σ) H.size)) (hP : va_P D vwCl (w σ ++ wr) H) (hD : va_D A0 (w σ ++ wr)) (hS : va_S A0 s.heap H locs) (hA : ∀ q, s.heap.size ≤ q → A0 q)
    (kx : ∀ (En : String) (ce : Cell) (q9 : Addr) (H1 : Heap) (locs1 : List Loc), xc En → va_P D vwCl (w σ ++ wr) H1 → va_S A0 s.heap H1 locs1 → H1[q9]? = some ce → ce.vm = .none → s.vm.findClass En = some ce.cls → vx_W p l e R s m args below meth c H1 locs1 (cells + mc) (slots + ms) Q (F0 m pc ls rest) q9)
    (kk : ∀ (r : Int64) (u : S) (H1 : Heap) (locs1 : List Loc), post r u → va_P D vwCl (w u ++ wr) H1 → va_D A0 (w u ++ wr) → va_S A0 s.heap H1 locs1 → W p l e R s m args below meth c H1 locs1 (cells + mc) (slots + ms) Q (F0 m (pc + 3) ls (.long r :: rest))) : W p l e R s m args below meth c H locs cells slots Q (F0 m pc ls st0) :=
  vx_calll hr hS (fun q _ h => xA_in (D_l hD) hS hA q h) (xA_in (D_l hD) hS hA) (fun q _ h => xA_in (D_l hD) hS hA q h) (fun En ce q9 u t H1 locs1 ht hvm _ hB hz hk hS1 h1 h2 h3 => by
    obtain ⟨hxc, hP1, -, hD1⟩ := hB
    rw [ht] at hP1
    obtain ⟨g1, -⟩ := f_join hP hD hk (xA_in (D_l hD) hS hA) hP1 hD1
    exact kx En ce q9 H1 locs1 hxc g1 hS1 h1 h2 h3) (fun r u t H1 locs1 ht hvm hp hB hz hk hS1 => by
    obtain ⟨hP1, -, hD1⟩ := hB
    rw [ht] at hP1
    obtain ⟨g1, g2⟩ := f_join hP hD hk (xA_in (D_l hD) hS hA) hP1 hD1
    exact kk r u H1 locs1 hp g1 g2 hS1)
end XF
/-! ===== the law's own methods that catch ===== -/
theorem xwOpen {S : Type} {l : Launch} {y : MethodName} {ws ws' : List Cond} {rm : Room} {cc : ByteArray} {maxL : Nat} {ret : Option FieldType} {hh : List (Nat × Nat × Nat × Nat)} {D : va_G} {tys : List (ClassId × FieldType)} {E : (Nat → Prop) → State → Heap → Prop} {w : S → va_W} {σ : S} {av : List Value} {sz mc ms : Nat} {QQ : (Nat → Prop) → Array Value → State → Outcome → State → Prop}
    (hy : plainName y.cls = true) (hw : ws = Cond.codeWith y cc maxL ret hh :: ws') (hn : (lg_sl av).length ≤ maxL)
    (body : ∀ (p : Program) (e : Env) (s : State) (m : MethodId) (below : List Frame) (meth : Method) (c : Code) (A : Nat → Prop), p.tables.exec = Jvm.exec → c.code = cc → meth.sig.returnType = ret → c.maxLocals = maxL → s.vm.findClass y.cls = some m.cls → (∀ w ∈ ws, w.before av.toArray s = true) → meth.locks = false → c.exceptionTable.toList = tableOf hh →
      va_K D vwCl tys s → E A s s.heap → (∀ q, s.heap.size ≤ q → A q) → va_P D vwCl (w σ) s.heap → va_D A (w σ) → va_S A s.heap s.heap [] → ∀ ls : Array Slot, lv_has ls maxL (lv_args 0 av) →
      W p l e (headSpec ws rm).room s m av.toArray below meth c s.heap [] 0 0 (MQ below (QQ A) av.toArray s mc ms A) (F0 m 0 ls [])) :
    Met l y ws rm (va_Pc av (xPre D tys E w σ sz)) (QQ (va_A (w σ) sz)) mc ms (va_A (w σ) sz) := by
  refine va_MetW (cc := cc) (maxL := maxL) (ret := ret) (hh := hh) hy hw ?_
  intro p e s m args below meth c s₁ B hml hv
  obtain ⟨rfl, hsz, hP, hK, hD0, hE⟩ := hv
  subst hsz
  have hl := lv_entry av (n := maxL) hn
  rw [lg_entry_eq]
  have hD := hD0.self (sz := s.heap.size)
  have hts := atoms_spec (ws := ws) B.pre
  exact body p e s m below meth c (va_A (w σ) s.heap.size) B.exec B.bytes B.returns hml (findClass_of_methodNamed B.named) hts B.notSynchronized (vx_table (x := y) B (hts _ (by rw [hw]; exact List.mem_cons_self))) hK hE (fun q h => Or.inr h) hP hD va_S.rf _ hl
abbrev oW (bo : Nat) (cL : ClassId) (v : Int64) : va_W := [(bo, .inl (cL, 1, .inr (.inl (fun _ => v))))]
abbrev wL (ax ar : Nat) (ad : Nat → Nat) (cO : ClassId) (bo : Nat) (cL : ClassId) (u : St × Int64) : va_W := cW ax ar ad cO u.1 ++ oW bo cL u.2
abbrev tL (cO cL : ClassId) : List (ClassId × FieldType) := [(cO, .object RX0), (cL, .long)]
theorem o_P {D : va_G} {ws : va_W} {bo : Nat} {cL : ClassId} {f : Nat → Int64} {x : Int64} {H : Heap} (h : va_P D vwCl (ws ++ [(bo, .inl (cL, 1, .inr (.inl f)))]) H) (hf : f 0 = x) : va_P D vwCl (ws ++ oW bo cL x) H := by
  refine va_P.app (P_l h) (fun k q hk => ?_)
  have h1 := (P_r h) 0 _ rfl
  cases k with
  | zero =>
    cases hk
    have h2 : H[bo]? = some (vp_cell cL (1, .inr (.inl f))) := h1
    show H[bo]? = some (vp_cell cL (1, .inr (.inl (fun _ => x))))
    rw [h2, vp_cell_l, vp_cell_l, arrV_congr cL (f := fun j => .long (f j)) (g := fun _ => .long x) (fun j hj => by rw [show j = 0 by omega, hf])]
  | succ k => cases hk
theorem o_D {A : Nat → Prop} {ws : va_W} {bo : Nat} {cL : ClassId} {f : Nat → Int64} {x : Int64} (h : va_D A (ws ++ [(bo, .inl (cL, 1, .inr (.inl f)))])) : va_D A (ws ++ oW bo cL x) := va_D_same h (by simp)
