/-! 'new int[n][k]': the machine makes the outer row, then the n inner rows one behind another, and lays each into its place at once -/
def gr_c (c : ClassId) (n h i : Nat) : Cell := arrV c n (fun j => va_rf (if j < i then some (h + 1 + j) else none))
def gr_r (d : ClassId) (k : Nat) (v : Value) : Cell := { cls := d, slots := Array.replicate k v, vm := .none }
/-- the state when i inner rows stand -/
def gr_u (T : State) (c d : ClassId) (n k : Nat) (v : Value) : Nat → State
  | 0 => T.pushCell (gr_c c n T.heap.size 0)
  | i + 1 => ((gr_u T c d n k v i).pushCell (gr_r d k v)).setCell T.heap.size (gr_c c n T.heap.size (i + 1))
theorem gr_c0 (c : ClassId) (n h : Nat) : ({ cls := c, slots := Array.replicate n .null, vm := .none } : Cell) = gr_c c n h 0 := by
  rw [arrV_new]
  exact congrArg (arrV c n) (funext fun j => by simp [va_rf])
theorem gr_cs (c : ClassId) (n h i : Nat) : (gr_c c n h i).setSlot i (.ref (h + 1 + i)) = gr_c c n h (i + 1) := by
  unfold gr_c
  rw [arrV_store]
  refine congrArg (arrV c n) (funext fun j => ?_)
  by_cases e : j = i
  · subst e
    simp [updV, va_rf]
  · by_cases h9 : j < i
    · simp [updV, e, h9, Nat.lt_succ_of_lt h9]
    · simp [updV, e, h9, show ¬ j < i + 1 by omega]
theorem gr_cn (c : ClassId) (n h i : Nat) : (gr_c c n h i).slots.size = n := by simp [gr_c, arrV]
theorem gr_rn (d : ClassId) (k : Nat) (v : Value) : (gr_r d k v).slots.size = k := by simp [gr_r]
section GR
variable (T : State) (c d : ClassId) (n k : Nat) (v : Value)
theorem gr_size (i : Nat) : (gr_u T c d n k v i).heap.size = T.heap.size + 1 + i := by
  induction i with
  | zero => exact Array.size_push ..
  | succ i ih =>
    show (((gr_u T c d n k v i).heap.push (gr_r d k v)).setIfInBounds T.heap.size (gr_c c n T.heap.size (i + 1))).size = _
    rw [Array.size_setIfInBounds, Array.size_push, ih]
    omega
theorem gr_at0 (a : Nat) : (gr_u T c d n k v 0).heap[a]? = if a = T.heap.size then some (gr_c c n T.heap.size 0) else T.heap[a]? := by
  show (T.heap.push (gr_c c n T.heap.size 0))[a]? = _
  rw [Array.getElem?_push]
theorem gr_at (i a : Nat) : (gr_u T c d n k v (i + 1)).heap[a]? = if a = T.heap.size then some (gr_c c n T.heap.size (i + 1)) else if a = T.heap.size + 1 + i then some (gr_r d k v) else (gr_u T c d n k v i).heap[a]? := by
  show (((gr_u T c d n k v i).heap.push (gr_r d k v)).setIfInBounds T.heap.size (gr_c c n T.heap.size (i + 1)))[a]? = _
  have z := gr_size T c d n k v i
  rw [Array.getElem?_setIfInBounds, Array.size_push, Array.getElem?_push, z]
  by_cases h1 : T.heap.size = a
  · subst h1
    rw [if_pos rfl, if_pos (by omega), if_pos rfl]
  · rw [if_neg h1, if_neg (show ¬ a = T.heap.size from fun h => h1 h.symm)]
theorem gr_out (i : Nat) : (gr_u T c d n k v i).heap[T.heap.size]? = some (gr_c c n T.heap.size i) := by
  cases i with
  | zero => rw [gr_at0, if_pos rfl]
  | succ i => rw [gr_at, if_pos rfl]
theorem gr_old (i : Nat) {a : Nat} (ha : a < T.heap.size) : (gr_u T c d n k v i).heap[a]? = T.heap[a]? := by
  induction i with
  | zero => rw [gr_at0, if_neg (by omega)]
  | succ i ih => rw [gr_at, if_neg (by omega), if_neg (by omega), ih]
theorem gr_in (i j : Nat) (hj : j < i) : (gr_u T c d n k v i).heap[T.heap.size + 1 + j]? = some (gr_r d k v) := by
  induction i with
  | zero => exact absurd hj (Nat.not_lt_zero _)
  | succ i ih =>
    rw [gr_at, if_neg (by omega)]
    by_cases e : j = i
    · subst e
      rw [if_pos rfl]
    · rw [if_neg (by omega)]
      exact ih (by omega)
theorem gr_vm (i : Nat) : (gr_u T c d n k v i).vm = T.vm := by
  induction i with
  | zero => rfl
  | succ i ih => exact ih
theorem gr_java (i : Nat) : (gr_u T c d n k v i).topJava? = T.topJava? := by
  induction i with
  | zero => rfl
  | succ i ih => exact ih
theorem gr_used (i : Nat) : (gr_u T c d n k v i).slotsUsed = T.slotsUsed + n + k * i := by
  induction i with
  | zero =>
    show T.slotsUsed + (gr_c c n T.heap.size 0).slots.size = _
    rw [gr_cn]
    rfl
  | succ i ih =>
    show (gr_u T c d n k v i).slotsUsed + (gr_r d k v).slots.size = _
    rw [gr_rn, ih, Nat.mul_succ]
    omega
theorem gr_top (f : JFrame) (i : Nat) : gr_u (T.setTop f) c d n k v i = (gr_u T c d n k v i).setTop f := by
  induction i with
  | zero => rfl
  | succ i ih =>
    show ((gr_u (T.setTop f) c d n k v i).pushCell (gr_r d k v)).setCell T.heap.size (gr_c c n T.heap.size (i + 1)) = _
    rw [ih]
    rfl
theorem gr_stand {p : Program} {l : Launch} {e : Env} {R : Room} {s : State} {m : MethodId} {args : Array Value} {below : List Frame} {meth : Method} {cd : Code} {locs : List Loc} {cells slots : Nat} (X : Stand p l e R s m args below meth cd T locs cells slots) (i : Nat) : ∃ L : List Loc, (∀ q ∈ L, q.base = T.heap.size) ∧ Stand p l e R s m args below meth cd (gr_u T c d n k v i) (locs ++ L) (cells + 1 + i) (slots + n + k * i) := by
  induction i with
  | zero =>
    have h := X.pushed (gr_c c n T.heap.size 0)
    rw [gr_cn] at h
    exact ⟨[], (fun _ h9 => by cases h9), (by rw [List.append_nil]; exact h)⟩
  | succ i ih =>
    obtain ⟨L, hL, Y⟩ := ih
    have Y1 := Y.pushed (gr_r d k v)
    have hs : ((gr_u T c d n k v i).pushCell (gr_r d k v)).heap[T.heap.size]? = some (gr_c c n T.heap.size i) := by
      show ((gr_u T c d n k v i).heap.push (gr_r d k v))[T.heap.size]? = _
      rw [Array.getElem?_push, if_neg (by rw [gr_size]; omega)]
      exact gr_out ..
    have Y2 := Y1.stored hs i (.ref (T.heap.size + 1 + i))
    have e2 : slots + n + k * i + (gr_r d k v).slots.size = slots + n + k * (i + 1) := by
      rw [gr_rn, Nat.mul_succ]
      omega
    rw [gr_cs, List.append_assoc, e2] at Y2
    refine ⟨L ++ [({ base := T.heap.size, slot := i } : Loc)], fun q hq => ?_, Y2⟩
    rcases List.mem_append.mp hq with h | h
    · exact hL q h
    · cases List.mem_singleton.mp h
      rfl
end GR
section GW
variable {E : CtlPost} {e : Env} {b : Bool} {acts : List Action}
/-- one inner row -/
theorem gr_wrow {S : State} {d d2 : ClassId} {kd : Class} {ty : FieldType} {m : Int32} {Q : Addr → Pre} (hk : S.vm.classes[d]? = some kd) (hkind : kd.kind = .array d2 ty) (hm : ¬ m < 0) (hlim : ¬ m.toNatClampNeg > e.platform.arrayLengthLimit) (hheap : ¬ m.toNatClampNeg * componentBytes ty > e.platform.maxHeapBytes) (hc : S.heap.size < e.platform.maxCells) (hs : S.slotsUsed + m.toNatClampNeg ≤ e.platform.maxSlots) (hfit : fits ty (defaultValue ty) = true) (hq : ∀ acts', Q S.heap.size b acts' (S.pushCell (gr_r d m.toNatClampNeg (defaultValue ty)))) : wp (multianewarray.make d [m]) Q E e b acts S := by
  rw [multianewarray.make]
  simp only [wp_bind', W.ite, hm, if_false, wp_pure', W.theClass, hk, Option.some.injEq, exists_eq_left', hkind]
  exact W.newArray_of hk hkind hlim hheap hc hs hfit hq
/-- the outer row, and the inner ones by a loop -/
theorem gr_wmake {S : State} {c d d2 : ClassId} {kc kd : Class} {t0 ty : FieldType} {n m : Int32} {Q : Addr → Pre} (hk : S.vm.classes[c]? = some kc) (hkind : kc.kind = .array d t0) (hnull : fits t0 .null = true) (href : ∀ a, fits t0 (.ref a) = true) (hkd : S.vm.classes[d]? = some kd) (hkindd : kd.kind = .array d2 ty) (hn : ¬ n < 0) (hn0 : (n == 0) = false) (hm : ¬ m < 0) (hlimn : ¬ n.toNatClampNeg > e.platform.arrayLengthLimit) (hheapn : ¬ n.toNatClampNeg * componentBytes t0 > e.platform.maxHeapBytes) (hlim : ¬ m.toNatClampNeg > e.platform.arrayLengthLimit) (hheap : ¬ m.toNatClampNeg * componentBytes ty > e.platform.maxHeapBytes) (hc : S.heap.size + 1 + n.toNatClampNeg ≤ e.platform.maxCells) (hs : S.slotsUsed + n.toNatClampNeg + m.toNatClampNeg * n.toNatClampNeg ≤ e.platform.maxSlots) (hfit : fits ty (defaultValue ty) = true) (hq : ∀ b' acts', Q S.heap.size b' acts' (gr_u S c d n.toNatClampNeg m.toNatClampNeg (defaultValue ty) n.toNatClampNeg)) : wp (multianewarray.make c [n, m]) Q E e b acts S := by
  rw [multianewarray.make]
  simp only [wp_bind', W.ite, hn, if_false, wp_pure', W.theClass, hk, Option.some.injEq, exists_eq_left', hkind, hn0, Bool.false_eq_true]
  refine W.newArray_of hk hkind hlimn hheapn (by omega) (by omega) hnull (fun acts' => ?_)
  rw [wp_bind', Std.Legacy.Range.forIn_eq_forIn_range']
  refine wp_forIn_inv (fun rest s' => ∃ i, i ≤ n.toNatClampNeg ∧ rest = List.range' i (n.toNatClampNeg - i) ∧ s' = gr_u S c d n.toNatClampNeg m.toNatClampNeg (defaultValue ty) i) _ _ ?_ (fun x rest s' b' acts' Q' hI hk' => ?_) (fun s' b' acts' hI => ?_)
  · exact ⟨0, Nat.zero_le _, by simp, congrArg S.pushCell (gr_c0 ..)⟩
  · obtain ⟨i, hi, e1, rfl⟩ := hI
    cases hz : n.toNatClampNeg - i with
    | zero => rw [hz] at e1; cases e1
    | succ q =>
      rw [hz, List.range'_succ] at e1
      obtain ⟨rfl, rfl⟩ := List.cons.inj e1
      have hmul := Nat.mul_le_mul_left m.toNatClampNeg (show x + 1 ≤ n.toNatClampNeg by omega)
      rw [Nat.mul_succ] at hmul
      have hk2 : ((gr_u S c d n.toNatClampNeg m.toNatClampNeg (defaultValue ty) x).pushCell (gr_r d m.toNatClampNeg (defaultValue ty))).vm.classes[c]? = some kc := by
        show (gr_u S c d n.toNatClampNeg m.toNatClampNeg (defaultValue ty) x).vm.classes[c]? = some kc
        rw [gr_vm]
        exact hk
      simp only [wp_bind', wp_pure', W.writeLoc]
      refine gr_wrow (by rw [gr_vm]; exact hkd) hkindd hm hlim hheap (by rw [gr_size]; omega) (by rw [gr_used]; omega) hfit (fun acts2 => ?_)
      refine ⟨gr_c c n.toNatClampNeg S.heap.size x, ?_, (fun h => by cases h), (by rw [gr_cn]; show x < n.toNatClampNeg; omega), ?_, ?_⟩
      · show ((gr_u S c d n.toNatClampNeg m.toNatClampNeg (defaultValue ty) x).heap.push (gr_r d m.toNatClampNeg (defaultValue ty)))[S.heap.size]? = _
        rw [Array.getElem?_push, if_neg (by rw [gr_size]; omega)]
        exact gr_out ..
      · show State.fitsSlot _ c .none x _ = true
        simp only [State.fitsSlot, State.slotType?, hk2, hkind, href, Option.bind_eq_bind, Option.bind_some]
      · refine hk' _ _ _ ⟨x + 1, by omega, ?_, ?_⟩
        · rw [show n.toNatClampNeg - (x + 1) = q by omega]
        · rw [gr_size, gr_cs]
          rfl
  · obtain ⟨i, hi, e1, rfl⟩ := hI
    cases hz : n.toNatClampNeg - i with
    | zero =>
      have hi2 : i = n.toNatClampNeg := by omega
      subst hi2
      exact hq _ _
    | succ q => rw [hz] at e1; cases e1
theorem gr_wsem {T : State} {f : JFrame} {idx : Nat} {rest : List Value} {c d d2 : ClassId} {kc kd : Class} {t0 ty : FieldType} {n m : Int32} {Q : Unit → Pre} (htop : T.topJava?.isSome) (hr : T.vm.classReady f.method.cls idx c) (hst : f.stack = .int m :: .int n :: rest) (hk : T.vm.classes[c]? = some kc) (hkind : kc.kind = .array d t0) (hnull : fits t0 .null = true) (href : ∀ a, fits t0 (.ref a) = true) (hkd : T.vm.classes[d]? = some kd) (hkindd : kd.kind = .array d2 ty) (hn : ¬ n < 0) (hn0 : (n == 0) = false) (hm : ¬ m < 0) (hlimn : ¬ n.toNatClampNeg > e.platform.arrayLengthLimit) (hheapn : ¬ n.toNatClampNeg * componentBytes t0 > e.platform.maxHeapBytes) (hlim : ¬ m.toNatClampNeg > e.platform.arrayLengthLimit) (hheap : ¬ m.toNatClampNeg * componentBytes ty > e.platform.maxHeapBytes) (hc : T.heap.size + 1 + n.toNatClampNeg ≤ e.platform.maxCells) (hs : T.slotsUsed + n.toNatClampNeg + m.toNatClampNeg * n.toNatClampNeg ≤ e.platform.maxSlots) (hfit : fits ty (defaultValue ty) = true) (hq : ∀ b' acts', Q () b' acts' ((gr_u T c d n.toNatClampNeg m.toNatClampNeg (defaultValue ty) n.toNatClampNeg).setTop { f with stack := .ref T.heap.size :: rest })) : wp (multianewarray.sem idx 2) Q E e b acts (T.setTop f) := by
  simp only [multianewarray.sem, wp_bind', W.resolveClassAt_ready (State.method?_setTop f htop) hr, popN, W.pop, State.topJava?_setTop' _ htop, Option.some.injEq, exists_eq_left', hst, List.cons.injEq, exists_cons_eq, State.setTop_setTop, wp_pure', List.nil_append, List.cons_append, List.mapM_cons, List.mapM_nil, W.mark, W.pushRef]
  refine gr_wmake (S := T.setTop { f with stack := rest }) hk hkind hnull href hkd hkindd hn hn0 hm hlimn hheapn hlim hheap hc hs hfit (fun b' acts' => ?_)
  refine ⟨{ f with stack := rest }, ?_, ?_⟩
  · rw [gr_top]
    exact State.topJava?_setTop' _ (by rw [gr_java]; exact htop)
  · rw [gr_top, State.setTop_setTop]
    exact hq _ _
theorem gr_cold {T : State} {f : JFrame} {idx c : Nat} {vm' : Vm} {Q : Unit → Pre} (htop : T.topJava?.isSome) (hg : (Jvm.resolveClass f.method.cls idx).Gives e.toSetting T.vm (.ok c) vm') (hr : vm'.classReady f.method.cls idx c) (hsz : vm'.classes.size ≤ T.vm.classes.size) (h : wp (multianewarray.sem idx 2) Q E e b acts ((T.setVm vm').setTop f)) : wp (multianewarray.sem idx 2) Q E e b acts (T.setTop f) := by
  simp only [multianewarray.sem, wp_bind'] at h ⊢
  exact (W.resolveClassAt_transfer (s := T.setTop f) (State.method?_setTop f htop) hg hr hsz).mpr h
end GW
