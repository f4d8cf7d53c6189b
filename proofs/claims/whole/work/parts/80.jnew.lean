/-! constructors: walks that make cells -/
def AOA (U : State) : Prop := (Cond.arrayOver (.array .int)).before #[] U = true
def aoI (vm : Vm) (comp : ClassId) : Option Nat := vm.classes.findIdx? fun (x : Class) => match x.kind with | .array component _ => component == comp | _ => false
def aoV (vm : Vm) (c : Nat) : Option Bool := (vm.classes[c]?).map fun (k : Class) => match k.kind with | .array _ ty => decide (ty = FieldType.int.array) && decide (vm.findClass ("[" ++ FieldType.int.array.toString) = some c) | _ => false
theorem AOA_iff (U : State) : AOA U ↔ ((U.vm.findClass FieldType.int.array.toString).bind fun comp => (aoI U.vm comp).bind fun c => aoV U.vm c) = some true := by
  have e : (Cond.arrayOver (.array .int)).before #[] U = (((U.vm.findClass FieldType.int.array.toString).bind fun comp => (aoI U.vm comp).bind fun c => aoV U.vm c) == some true) := by
    unfold Cond.before Cond.holds
    simp only [Cond.value]
    rfl
  unfold AOA
  rw [e]
  exact beq_iff_eq
theorem AOA.moved {u U : State} (hvm : u.vm.Alike U.vm) (h : AOA u) : AOA U := by
  rw [AOA_iff] at h ⊢
  have ef : ∀ x, U.vm.findClass x = u.vm.findClass x := fun x => hvm.findClass x none
  have b : U.vm.bare = u.vm.bare := by first | exact hvm.bare_eq | exact hvm.bare_eq.symm
  have hi : ∀ comp, aoI U.vm comp = aoI u.vm comp := fun comp => by
    have h1 : aoI U.vm comp = aoI U.vm.bare comp := (va_idx_bare U.vm comp).symm
    have h2 : aoI u.vm comp = aoI u.vm.bare comp := (va_idx_bare u.vm comp).symm
    rw [h1, h2, b]
  rw [ef]
  cases hc : u.vm.findClass FieldType.int.array.toString with
  | none => rw [hc] at h; cases h
  | some comp =>
    rw [hc, Option.bind_some] at h
    rw [Option.bind_some, hi]
    cases hc2 : aoI u.vm comp with
    | none => rw [hc2] at h; cases h
    | some c =>
      rw [hc2, Option.bind_some] at h
      rw [Option.bind_some]
      unfold aoV at h ⊢
      cases hk : u.vm.classes[c]? with
      | none => rw [hk] at h; cases h
      | some k =>
        obtain ⟨k', hk', he⟩ := hvm.2.2 _ _ hk
        have hkind : k'.kind = k.kind := by rw [he]
        rw [hk'] 
        rw [hk] at h
        simp only [Option.map_some, ef, hkind] at h ⊢
        exact h
def nE (U : State) : Prop := va_Nw (.methodLinkNest RX5 9 yX4_init RX5) U ∧ va_Nw (.methodLinkNest RX5 18 yX1_init RX5) U ∧ va_Nw (.methodLinkNest RX5 31 yX2_init RX5) U ∧ va_Nw (.methodLinkNest RX5 57 yX0_init RX5) U ∧ va_Nw (.methodLinkNest RX5 58 yX3_init RX5) U ∧ va_Nw (.methodLinkNest RX0 9 yX1_init RX5) U ∧ va_Nw (.methodLinkNest RX0 18 yX2_init RX5) U ∧ va_AO RX0 U ∧ va_AO RX3 U ∧ AOA U
theorem nE.warm {s U : State} (hW : s.WarmedH U.vm) (h : nE s) : nE U := by
  obtain ⟨a, b, c, d, e, f, g, i, j, k⟩ := h
  exact ⟨a.warmM hW, b.warmM hW, c.warmM hW, d.warmM hW, e.warmM hW, f.warmM hW, g.warmM hW, i.moved hW.alike, j.moved hW.alike, k.moved hW.alike⟩
theorem nE.call {U : State} {g : JFrame} {mk : MethodId} {a : Array Value} (h : nE U) : nE (U.calling g mk a) := by
  obtain ⟨a, b, c, d, e, f, g, i, j, k⟩ := h
  have hvm : U.vm.Alike U.vm := Vm.Alike.refl U.vm
  exact ⟨va_Nw.same rfl rfl a, va_Nw.same rfl rfl b, va_Nw.same rfl rfl c, va_Nw.same rfl rfl d, va_Nw.same rfl rfl e, va_Nw.same rfl rfl f, va_Nw.same rfl rfl g, va_AO.moved (u := U) hvm i, va_AO.moved (u := U) hvm j, AOA.moved (u := U) hvm k⟩
def jR (G : jX) (nc ns : Nat) : jX := match G with
  | (p, l, e, R, s, m, args, below, meth, c, A, nL, Q, _, _) => (p, l, e, R, s, m, args, below, meth, c, A, nL, Q, nc, ns)
def QN {α : Type} (D : va_G) (A : Nat → Prop) (w : α → va_W) : Array Value → State → Outcome → State → Prop := fun _ st oc t => (∃ u : α, oc = .returned none ∧ va_P D vwCl (w u) t.heap ∧ va_K D vwCl (jT D) t ∧ va_D A (w u)) ∧ va_F A st t
def jZN {α : Type} (D : va_G) (w : α → va_W) (mc ms : Nat) : jX → Prop := fun G => match G with
  | (_, _, _, _, s, _, args, below, meth, _, A, _, Q, _, _) => meth.sig.returnType = none ∧ meth.locks = false ∧ meth.name = "<init>" ∧ Q = MQ below (QN D A w) args s mc ms A ∧ nE s
def MN {α : Type} (l : Launch) (y : MethodName) (wds : List Cond) (rm : Room) (D : va_G) (av : List Value) (ws : va_W) (w : α → va_W) (mc ms : Nat) : Prop := ∀ sz : Nat, Met l y wds rm (va_Pc av (fun U => U.heap.size = sz ∧ va_P D vwCl ws U.heap ∧ va_K D vwCl (jT D) U ∧ va_D (fun _ => True) ws ∧ nE U)) (QN D (va_A ws sz) w) mc ms (va_A ws sz)
/-- what an allocating walk's other words say of its state -/
def jNE (Z : jX → Prop) : Prop := ∀ (p : Program) (l : Launch) (e : Env) (R : Room) (s : State) (m : MethodId) (args : Array Value) (below : List Frame) (meth : Method) (c : Code) (A : Nat → Prop) (nL : Nat) (Q : State → Prop) (a b : Nat), Z (p, l, e, R, s, m, args, below, meth, c, A, nL, Q, a, b) → nE s ∧ ∀ a' b', Z (p, l, e, R, s, m, args, below, meth, c, A, nL, Q, a', b')
theorem jZN_ne {α : Type} (D : va_G) (w : α → va_W) (mc ms : Nat) : jNE (jZN D w mc ms) := fun _ _ _ _ _ _ _ _ _ _ _ _ _ _ _ h => ⟨h.2.2.2.2, fun _ _ => h⟩
section JN
variable {Z : jX → Prop} {G : jX} {D : va_G} {cc : ByteArray} {own : String} {Ts : List Cond} {rm : Room} {nl : Nat} {pc nc ns : Nat} {lv : List (Nat × Value)} {st : List Value} {ws : va_W}
theorem KQ_re (hZ : jNE Z) (C : KQ Z (jR G nc ns) D cc own Ts rm nl) {nc' ns' : Nat} (h1 : nc' ≤ rm.cells) (h2 : ns' ≤ rm.slots) : KQ Z (jR G nc' ns') D cc own Ts rm nl := by
  obtain ⟨p, l, e, R, s, m, args, below, meth, c, A, nL, Q, a9, b9⟩ := G
  obtain ⟨hx, hb, hml, hnl, hown, hts, hK, hA, hRm, -, -, hz⟩ := C
  subst hRm
  exact ⟨hx, hb, hml, hnl, hown, hts, hK, hA, rfl, h1, h2, (hZ _ _ _ _ _ _ _ _ _ _ _ _ _ _ _ hz).2 _ _⟩
theorem jn_new {Cn : String} {T : u_T} {N ci idx : Nat} (C : KQ Z (jR G nc ns) D cc own Ts rm nl) (hin : ∀ w ∈ u_ws Cn T N, w ∈ Ts) (ty : Nat → FieldType) (hty : ∀ k, k < N → parseFieldDescriptor (T k).2.2.1 = some (ty k)) (hcl : Cond.classLink own idx Cn ∈ Ts) (hinst : Cond.instantiable Cn N ∈ Ts) (hini : Cond.initialized Cn ∈ Ts) (hc : vwCl[ci]? = some (Cn, T, N)) (fs : List Value) (hfs : ∀ j, j < N → defaultValue (ty j) = vp_V fs j) (h1 : nc + 1 ≤ rm.cells) (h2 : ns + N ≤ rm.slots) (hdg : decode cc pc = .ok (.new idx, 3)) (kk : ∀ q, JW (jR G (nc + 1) (ns + N)) D (pc + 3) lv (.ref q :: st) (ws ++ [(q, .inr (ci, fs))])) : JW (jR G nc ns) D pc lv st ws := by
  obtain ⟨p, l, e, R, s, m, args, below, meth, c, A, nL, Q, a9, b9⟩ := G
  obtain ⟨hx, hb, hml, hnl, hown, hts, hK, hA, hRm, -, -, -⟩ := C
  subst hRm
  intro H locs ls hP hD hS hl
  exact va_new hx hb hts hin ty hty hown (hts _ hcl) (hts _ hinst) (hts _ hini) hK hP hD hS hA hc hfs h1 h2 hdg (fun q H1 hP hD hS => kk q H1 locs ls hP hD hS hl)
theorem jn_newi {n : Int32} (N : Nat) (C : KQ Z (jR G nc ns) D cc own Ts rm nl) (harr : Cond.arrayClass .int ∈ Ts) (hn : ¬ n < 0) (hN : n.toNatClampNeg = N) (hby : N * 4 ≤ 536870912) (h1 : nc + 1 ≤ rm.cells) (h2 : ns + N ≤ rm.slots) (hdg : decode cc pc = .ok (.newarray .int, 2)) (kk : ∀ q, JW (jR G (nc + 1) (ns + N)) D (pc + 2) lv (.ref q :: st) (ws ++ [(q, .inl (D.1 7, N, .inl (fun _ => 0)))])) : JW (jR G nc ns) D pc lv (.int n :: st) ws := by
  obtain ⟨p, l, e, R, s, m, args, below, meth, c, A, nL, Q, a9, b9⟩ := G
  obtain ⟨hx, hb, hml, hnl, hown, hts, hK, hA, hRm, -, -, -⟩ := C
  subst hRm
  intro H locs ls hP hD hS hl
  refine va_newa (atype := .int) (ty := .int) (a0 := (N, .inl (fun _ => 0))) hx hb (hts _ harr) rfl hK hP hD hS hA (fun cA => rfl) hn hN hby h1 h2 hdg (fun q cA H1 hK1 hP hD hS => ?_)
  have e1 := (hK1.2 5 _ rfl).2
  have e2 := (hK.2 0 _ rfl).2
  have e : cA = D.1 7 := Option.some.inj (e1.symm.trans e2)
  subst e
  exact kk q H1 locs ls hP hD hS hl
theorem jn_newz {n : Int32} (N : Nat) (C : KQ Z (jR G nc ns) D cc own Ts rm nl) (harr : Cond.arrayClass .boolean ∈ Ts) (hn : ¬ n < 0) (hN : n.toNatClampNeg = N) (hby : N * 1 ≤ 536870912) (h1 : nc + 1 ≤ rm.cells) (h2 : ns + N ≤ rm.slots) (hdg : decode cc pc = .ok (.newarray .boolean, 2)) (kk : ∀ q, JW (jR G (nc + 1) (ns + N)) D (pc + 2) lv (.ref q :: st) (ws ++ [(q, .inl (D.1 8, N, .inl (fun _ => 0)))])) : JW (jR G nc ns) D pc lv (.int n :: st) ws := by
  obtain ⟨p, l, e, R, s, m, args, below, meth, c, A, nL, Q, a9, b9⟩ := G
  obtain ⟨hx, hb, hml, hnl, hown, hts, hK, hA, hRm, -, -, -⟩ := C
  subst hRm
  intro H locs ls hP hD hS hl
  refine va_newa (atype := .boolean) (ty := .boolean) (a0 := (N, .inl (fun _ => 0))) hx hb (hts _ harr) rfl hK hP hD hS hA (fun cA => rfl) hn hN hby h1 h2 hdg (fun q cA H1 hK1 hP hD hS => ?_)
  have e1 := (hK1.2 5 _ rfl).2
  have e2 := (hK.2 1 _ rfl).2
  have e : cA = D.1 8 := Option.some.inj (e1.symm.trans e2)
  subst e
  exact kk q H1 locs ls hP hD hS hl
theorem jn_newq {Cn : String} {idx : Nat} {n : Int32} (N t : Nat) {cD : ClassId} (hZ : jNE Z) (hZC : ∀ s, nE s → va_AO Cn s) (C : KQ Z (jR G nc ns) D cc own Ts rm nl) (hcl : Cond.classLink own idx Cn ∈ Ts) (ht : (jT D)[t]? = some (cD, .object Cn)) (hn : ¬ n < 0) (hN : n.toNatClampNeg = N) (hby : N * 4 ≤ 536870912) (h1 : nc + 1 ≤ rm.cells) (h2 : ns + N ≤ rm.slots) (hdg : decode cc pc = .ok (.anewarray idx, 3)) (kk : ∀ q, JW (jR G (nc + 1) (ns + N)) D (pc + 3) lv (.ref q :: st) (ws ++ [(q, .inl (cD, N, .inr (.inr (.inr (.inr (fun _ => none))))))])) : JW (jR G nc ns) D pc lv (.int n :: st) ws := by
  obtain ⟨p, l, e, R, s, m, args, below, meth, c, A, nL, Q, a9, b9⟩ := G
  obtain ⟨hx, hb, hml, hnl, hown, hts, hK, hA, hRm, -, -, hz⟩ := C
  subst hRm
  intro H locs ls hP hD hS hl
  refine va_newq hx hb hown (hts _ hcl) (hZC s (hZ _ _ _ _ _ _ _ _ _ _ _ _ _ _ _ hz).1) hK hP hD hS hA hn hN hby h1 h2 hdg (fun q cA H1 hK1 hP hD hS => ?_)
  obtain ⟨_, _, _, _, _, e1⟩ := (hK1.2 5 _ rfl).2
  obtain ⟨_, _, _, _, _, e2⟩ := (hK.2 t _ ht).2
  have e : cA = cD := Option.some.inj (e1.symm.trans e2)
  subst e
  exact kk q H1 locs ls hP hD hS hl
theorem jn_putF {Cn ref : String} {T : u_T} {N idx a : Nat} {fs : List Value} {v : Value} {ty : FieldType} (q ci k : Nat) (ws2 : va_W) {α : Type} {w : α → va_W} {mc ms : Nat} (C : KQ (jZN D w mc ms) (jR G nc ns) D cc own Ts rm nl) (hin : ∀ w ∈ u_ws Cn T N, w ∈ Ts) (ty0 : Nat → FieldType) (hty : ∀ k, k < N → parseFieldDescriptor (T k).2.2.1 = some (ty0 k)) (hnm : ∀ a, a < N → ∀ b, b < N → a ≠ b → (T a).2.1 ≠ (T b).2.1) (he : ws[q]? = some (a, .inr (ci, fs))) (hc : vwCl[ci]? = some (Cn, T, N)) (hk : k < N) (hlk : Cond.fieldLink own idx ref (T k).2.1 (T k).2.2.1 ∈ Ts) (href : (T k).1 = ref) (hfin : (T k).2.2.2 = true) (hdecl : (T k).1 = own) (hd : parseFieldDescriptor (T k).2.2.1 = some ty) (hn : narrow ty v = v) (hfit : fits ty v = true) (hl0 : k < fs.length) (hw : ws.set q (a, .inr (ci, fs.set k v)) = ws2) (hdg : decode cc pc = .ok (.putfield idx, 3)) (kk : JW (jR G nc ns) D (pc + 3) lv st ws2) : JW (jR G nc ns) D pc lv (v :: .ref a :: st) ws := by
  obtain ⟨p, l, e, R, s, m, args, below, meth, c, A, nL, Q, a9, b9⟩ := G
  obtain ⟨hx, hb, hml, hnl, hown, hts, hK, hA, hRm, -, -, hz⟩ := C
  subst hRm
  subst hw
  intro H locs ls hP hD hS hl
  exact va_putF hx hb hts hin ty0 hty hnm hown hK hP hD hS q he hc k hk (hts _ hlk) (fun x h => by rw [← href]; exact h) hfin hz.2.2.1 hdecl hd hn hfit hl0 hdg (fun H1 locs1 hP hD hS => kk H1 locs1 ls hP hD hS hl)
theorem jn_aast {Cn : String} {a n v t ci : Nat} {r : vw_C} {cA : ClassId} {vs : List Value} {f : Nat → Option Nat} {i : Int32} (q qk : Nat) (ws2 : va_W) (C : KQ Z G D cc own Ts rm nl) (ha : ws[q]? = some (a, .inl (cA, n, .inr (.inr (.inr (.inr f)))))) (ht : (jT D)[t]? = some (cA, .object r.1)) (hv : ws[qk]? = some (v, .inr (ci, vs))) (hc : vwCl[ci]? = some r) (hin : vp_in i n) (hw : ws.set q (a, .inl (cA, n, .inr (.inr (.inr (.inr (va_up f i.toNatClampNeg (some v))))))) = ws2) (hdg : decode cc pc = .ok (.aastore, 1)) (kk : JW G D (pc + 1) lv st ws2) : JW G D pc lv (.ref v :: .int i :: .ref a :: st) ws := by
  obtain ⟨p, l, e, R, s, m, args, below, meth, c, A, nL, Q, a9, b9⟩ := G
  obtain ⟨hx, hb, hml, hnl, hown, hts, hK, hA, hRm, -, -, hz⟩ := C
  subst hRm
  subst hw
  intro H locs ls hP hD hS hl
  exact va_astq hx hb hK hP hD hS q t qk ci ha ht hv hc hin hdg (fun H1 locs1 hP hD hS => kk H1 locs1 ls hP hD hS hl)
theorem jn_obj {idx a : Nat} (C : KQ Z G D cc own Ts rm nl) (h1 : Cond.methodLink own idx objectInit ∈ Ts) (h2 : Cond.instanceMethod objectInit ∈ Ts) (h3 : Cond.code objectInit ⟨#[0xb1]⟩ 1 none ∈ Ts) (hdg : decode cc pc = .ok (.invokespecial idx, 3)) (hfr : 1 ≤ rm.frames) (hlo : (st.map fun v => v.category).sum + 12 ≤ rm.locals) (kk : JW G D (pc + 3) lv st ws) : JW G D pc lv (.ref a :: st) ws := by
  obtain ⟨p, l, e, R, s, m, args, below, meth, c, A, nL, Q, a9, b9⟩ := G
  obtain ⟨hx, hb, hml, hnl, hown, hts, hK, hA, hRm, -, -, hz⟩ := C
  subst hRm
  intro H locs ls hP hD hS hl
  refine W.objInit hx hb hown (hts _ h1) (hts _ h2) (hts _ h3) rfl (by rw [hml]; exact hl.1) rfl hdg hfr (by show 2 * 0 + _ + 12 ≤ _; omega) ?_
  exact W.eq (g2 := F0 m (pc + 3) ls st) rfl (kk H locs ls hP hD hS hl)
theorem jn_ret {α : Type} {w : α → va_W} {mc ms : Nat} (u : α) (C : KQ (jZN D w mc ms) (jR G mc ms) D cc own Ts rm nl) (hdg : decode cc pc = .ok (.return_, 1)) (hw : ws = w u) : JW (jR G mc ms) D pc lv [] ws := by
  obtain ⟨p, l, e, R, s, m, args, below, meth, c, A, nL, Q, a9, b9⟩ := G
  obtain ⟨hx, hb, hml, hnl, hown, hts, hK, hA, hRm, -, -, hr, hlk, hnm, hQ, hE⟩ := C
  subst hRm
  subst hw
  subst hQ
  intro H locs ls hP hD hS hl
  exact W.vret hx hb hr (fun t ht hW => ⟨⟨u, rfl, by rw [ht]; exact hP, va_K.moved hW.alike hK, hD⟩, hS.F ht⟩) hS.2.2 hdg hlk
theorem jn_met {α : Type} {w : α → va_W} {mc ms : Nat} {y : MethodName} {wds w' : List Cond} {av : List Value} (hy : plainName y.cls = true) (hw : wds = Cond.code y cc nl none :: w') (hown : y.cls = own) (hini : y.name = "<init>") (hlv : lv_args 0 av = lv) (hnl : (lg_sl av).length ≤ nl) (hk : ∀ G : jX, KQ (jZN D w mc ms) (jR G 0 0) D cc own wds rm nl → JW (jR G 0 0) D 0 lv [] ws) : ∀ l, MN l y wds rm D av ws w mc ms := by
  intro l sz
  refine Met.ofW (cc := cc) (maxL := nl) (ret := none) hy hw ?_
  intro p e s m args below meth c s₁ B hml hv
  obtain ⟨rfl, hsz, hP, hK, hD0, hE⟩ := hv
  have hts := atoms_spec (ws := wds) B.pre
  have ho : s.vm.findClass own = some m.cls := by rw [← hown]; exact findClass_of_methodNamed B.named
  subst hsz
  have hD := hD0.self (sz := s.heap.size)
  have hA : ∀ q : Nat, s.heap.size ≤ q → va_A ws s.heap.size q := fun q h => Or.inr h
  have hl := lv_entry av (n := nl) hnl
  rw [hlv] at hl
  rw [lg_entry_eq]
  exact hk (p, l, e, rm, s, m, av.toArray, below, meth, c, va_A ws s.heap.size, nl, MQ below (QN D (va_A ws s.heap.size) w) av.toArray s mc ms (va_A ws s.heap.size), 0, 0) ⟨B.exec, B.bytes, hml, rfl, ho, hts, hK, hA, rfl, Nat.zero_le _, Nat.zero_le _, B.returns, B.notSynchronized, ((name_of_methodNamed B.named B.method).1).trans hini, rfl, hE⟩ s.heap [] _ hP hD va_S.rf hl
/-- a constructor is called: a nest mate's -/
theorem jn_callIN {α : Type} {w : α → va_W} {mc ms : Nat} {y : MethodName} {wds : List Cond} {cc2 : ByteArray} {nl2 idx b : Nat} {rm2 : Room} {wc wr : va_W} {host : String} (isC isR : List Nat) (hZ : jNE Z) (hNw : ∀ s, nE s → va_Nw (.methodLinkNest own idx y host) s) (C : KQ Z (jR G nc ns) D cc own Ts rm nl) (hM : ∀ l, MN l y wds rm2 D [.ref b] wc w mc ms) (K : CK y wds cc2 nl2 none 0) (hini : y.name = "<init>") (hG : GoodIn Ts wds) (h1 : Cond.initialized y.cls ∈ Ts) (h2 : Cond.instanceMethod y ∈ Ts) (hroom : rm2.cells = mc ∧ rm2.slots = ms) (hR : rm2.frames + 1 ≤ rm.frames ∧ 8 + (nl2 + 11) + rm2.locals ≤ rm.locals) (hcat : (st.map fun v => v.category).sum ≤ 8) (hC : isC.map (fun i => ws[i]?) = wc.map some) (hRR : isR.map (fun i => ws[i]?) = wr.map some) (hnC : va_nd isC = true) (hnR : va_nd isR = true) (hdis : ∀ i ∈ isR, i ∉ isC) (hc1 : nc + mc ≤ rm.cells) (hc2 : ns + ms ≤ rm.slots) (hdg : decode cc pc = .ok (.invokespecial idx, 3)) (kk : ∀ u, JW (jR G (nc + mc) (ns + ms)) D (pc + 3) lv st (wr ++ w u)) : JW (jR G nc ns) D pc lv (.ref b :: st) ws := by
  obtain ⟨p, l, e, R, s, m, args, below, meth, c, A, nL, Q, a9, b9⟩ := G
  obtain ⟨hx, hb, hml, hnl, hown, hts, hK, hA, hRm, -, -, hz⟩ := C
  subst hRm
  obtain ⟨w', hw'⟩ : ∃ w', wds = Cond.code y cc2 nl2 none :: w' := by
    cases wds with
    | nil => cases K.1
    | cons a t => exact ⟨t, by rw [Option.some.inj K.1]⟩
  have hE : nE s := (hZ _ _ _ _ _ _ _ _ _ _ _ _ _ _ _ hz).1
  intro H locs ls hP hD hS hl
  have hFc : ∀ q, va_A wc H.size q → A q := va_free hD hS hA isC hC
  have hPc := j_subP hP isC hC
  have hDc : va_D (fun _ => True) wc := (hD.sub isC hnC hC).same_list
  have run := va_runIN (l := l) (e := e) (below := below) (meth := meth) (H := H) (locs := locs) (cells := nc) (slots := ns) (As := []) (rest := st) (b := b) (g := F0 m pc ls (.ref b :: st)) ⟨hx, hb, hml, hown, hts⟩ (hM l H.size) ⟨va_cnB 0 hts hG hw' hroom.1 hroom.2 (hNw s hE) (hts _ h1) K.2 hR, hini, hts _ h2⟩ ⟨fun a U g mk q => by
    obtain ⟨q0, q1, qP, qK, qD, qE⟩ := q
    exact ⟨q0, q1, qP, va_K.moved (u := U) (U := U.calling g mk a) (Vm.Alike.refl U.vm) qK, qD, qE.call⟩, fun U hU hW => ⟨rfl, by rw [hU], by rw [hU]; exact hPc, va_K.moved hW.alike hK, hDc, hE.warm hW⟩⟩ rfl rfl hl.1 rfl (lv_room hcat) hdg ⟨hc1, hc2⟩
  intro T0 hT X
  obtain ⟨v2, st₀, t, T', L, h0, X', hL, e1, e2, ⟨⟨u, hv, hP1, hK1, hD1⟩, hz1, hkq⟩, stp⟩ := run T0 hT X
  cases hv
  rw [h0] at hz1 hkq
  obtain ⟨hP2, hD2⟩ := va_join hP hD isC isR hC hRR hnR hdis hkq hFc hP1 hD1
  have hS2 : va_S A s.heap T'.heap (locs ++ L) := ⟨Nat.le_trans hS.1 (by rw [e1]; exact hz1), fun q h1 h2 => by rw [e1, hkq q (Nat.lt_of_lt_of_le h1 hS.1) (fun z => h2 (hFc q z))]; exact hS.2.1 q h1 h2, fun q hq => by
      rcases List.mem_append.mp hq with h | h
      · exact hS.2.2 q h
      · exact hFc _ (hL q h)⟩
  obtain ⟨t2, a1, b1⟩ := kk u T'.heap (locs ++ L) ls (by rw [e1]; exact hP2) hD2 hS2 hl T' rfl X'
  exact ⟨t2, stp t2 a1, b1⟩
/-- a constructor that all may call -/
theorem jn_callI {α : Type} {w : α → va_W} {mc ms : Nat} {y : MethodName} {wds : List Cond} {cc2 : ByteArray} {nl2 idx b : Nat} {rm2 : Room} {wc wr : va_W} (isC isR : List Nat) (hZ : jNE Z) (C : KQ Z (jR G nc ns) D cc own Ts rm nl) (hM : ∀ l, MN l y wds rm2 D [.ref b] wc w mc ms) (K : CK y wds cc2 nl2 none 0) (hini : y.name = "<init>") (hG : GoodIn Ts wds) (h0 : Cond.methodLink own idx y ∈ Ts) (h1 : Cond.initialized y.cls ∈ Ts) (h2 : Cond.instanceMethod y ∈ Ts) (hroom : rm2.cells = mc ∧ rm2.slots = ms) (hR : rm2.frames + 1 ≤ rm.frames ∧ 8 + (nl2 + 11) + rm2.locals ≤ rm.locals) (hcat : (st.map fun v => v.category).sum ≤ 8) (hC : isC.map (fun i => ws[i]?) = wc.map some) (hRR : isR.map (fun i => ws[i]?) = wr.map some) (hnC : va_nd isC = true) (hnR : va_nd isR = true) (hdis : ∀ i ∈ isR, i ∉ isC) (hc1 : nc + mc ≤ rm.cells) (hc2 : ns + ms ≤ rm.slots) (hdg : decode cc pc = .ok (.invokespecial idx, 3)) (kk : ∀ u, JW (jR G (nc + mc) (ns + ms)) D (pc + 3) lv st (wr ++ w u)) : JW (jR G nc ns) D pc lv (.ref b :: st) ws := by
  obtain ⟨p, l, e, R, s, m, args, below, meth, c, A, nL, Q, a9, b9⟩ := G
  obtain ⟨hx, hb, hml, hnl, hown, hts, hK, hA, hRm, -, -, hz⟩ := C
  subst hRm
  obtain ⟨w', hw'⟩ : ∃ w', wds = Cond.code y cc2 nl2 none :: w' := by
    cases wds with
    | nil => cases K.1
    | cons a t => exact ⟨t, by rw [Option.some.inj K.1]⟩
  have hE : nE s := (hZ _ _ _ _ _ _ _ _ _ _ _ _ _ _ _ hz).1
  intro H locs ls hP hD hS hl
  have hFc : ∀ q, va_A wc H.size q → A q := va_free hD hS hA isC hC
  have hPc := j_subP hP isC hC
  have hDc : va_D (fun _ => True) wc := (hD.sub isC hnC hC).same_list
  have run := va_runI (l := l) (e := e) (below := below) (meth := meth) (H := H) (locs := locs) (cells := nc) (slots := ns) (As := []) (rest := st) (b := b) (g := F0 m pc ls (.ref b :: st)) ⟨hx, hb, hml, hown, hts⟩ (hM l H.size) (cwI 0 hts hG hw' hroom.1 hroom.2 (hts _ h1) (hts _ h0) (hts _ h2) hini K.2 hR) ⟨fun a U g mk q => by
    obtain ⟨q0, q1, qP, qK, qD, qE⟩ := q
    exact ⟨q0, q1, qP, va_K.moved (u := U) (U := U.calling g mk a) (Vm.Alike.refl U.vm) qK, qD, qE.call⟩, fun U hU hW => ⟨rfl, by rw [hU], by rw [hU]; exact hPc, va_K.moved hW.alike hK, hDc, hE.warm hW⟩⟩ rfl rfl hl.1 rfl (lv_room hcat) hdg ⟨hc1, hc2⟩
  intro T0 hT X
  obtain ⟨v2, st₀, t, T', L, h0, X', hL, e1, e2, ⟨⟨u, hv, hP1, hK1, hD1⟩, hz1, hkq⟩, stp⟩ := run T0 hT X
  cases hv
  rw [h0] at hz1 hkq
  obtain ⟨hP2, hD2⟩ := va_join hP hD isC isR hC hRR hnR hdis hkq hFc hP1 hD1
  have hS2 : va_S A s.heap T'.heap (locs ++ L) := ⟨Nat.le_trans hS.1 (by rw [e1]; exact hz1), fun q h1 h2 => by rw [e1, hkq q (Nat.lt_of_lt_of_le h1 hS.1) (fun z => h2 (hFc q z))]; exact hS.2.1 q h1 h2, fun q hq => by
      rcases List.mem_append.mp hq with h | h
      · exact hS.2.2 q h
      · exact hFc _ (hL q h)⟩
  obtain ⟨t2, a1, b1⟩ := kk u T'.heap (locs ++ L) ls (by rw [e1]; exact hP2) hD2 hS2 hl T' rfl X'
  exact ⟨t2, stp t2 a1, b1⟩
end JN
theorem AOA_spec {s : State} (h : AOA s) : ∃ comp c k, s.vm.findClass FieldType.int.array.toString = some comp ∧ s.vm.classes[c]? = some k ∧ k.kind = .array comp FieldType.int.array ∧ s.vm.findClass ("[" ++ FieldType.int.array.toString) = some c := by
  rw [AOA_iff] at h
  cases hc : s.vm.findClass FieldType.int.array.toString with
  | none => rw [hc] at h; cases h
  | some comp =>
    rw [hc, Option.bind_some] at h
    cases hi : aoI s.vm comp with
    | none => rw [hi] at h; cases h
    | some c =>
      rw [hi, Option.bind_some] at h
      unfold aoI at hi
      unfold aoV at h
      obtain ⟨hlt, hp, -⟩ := Array.findIdx?_eq_some_iff_getElem.mp hi
      have hk : s.vm.classes[c]? = some s.vm.classes[c] := Array.getElem?_eq_getElem hlt
      rw [hk, Option.map_some] at h
      have h2 := Option.some.inj h
      refine ⟨comp, c, s.vm.classes[c], rfl, hk, ?_⟩
      cases hkd : s.vm.classes[c].kind with
      | array x ty =>
        rw [hkd] at hp h2
        simp only [Bool.and_eq_true, decide_eq_true_eq] at h2
        have hx : x = comp := eq_of_beq hp
        rw [hx, h2.1]
        exact ⟨rfl, h2.2⟩
      | _ => rw [hkd] at h2; cases h2
/-- the grid of the courses, new -/
def mnW (D : va_G) (q : Nat) : va_W := [(q, .inl (D.1 11, 10, .inr (.inr (.inr (.inr (fun i => if i < 10 then some (q + 1 + i) else none)))))), (q + 1, .inl (D.1 7, 41, .inl (fun _ => 0))), (q + 2, .inl (D.1 7, 41, .inl (fun _ => 0))), (q + 3, .inl (D.1 7, 41, .inl (fun _ => 0))), (q + 4, .inl (D.1 7, 41, .inl (fun _ => 0))), (q + 5, .inl (D.1 7, 41, .inl (fun _ => 0))), (q + 6, .inl (D.1 7, 41, .inl (fun _ => 0))), (q + 7, .inl (D.1 7, 41, .inl (fun _ => 0))), (q + 8, .inl (D.1 7, 41, .inl (fun _ => 0))), (q + 9, .inl (D.1 7, 41, .inl (fun _ => 0))), (q + 10, .inl (D.1 7, 41, .inl (fun _ => 0)))]
theorem mnW_at {D : va_G} {q k : Nat} {x : Nat × va_E} (h : (mnW D q)[k]? = some x) : (k = 0 ∧ x = (q, .inl (D.1 11, 10, .inr (.inr (.inr (.inr (fun i => if i < 10 then some (q + 1 + i) else none))))))) ∨ ∃ j, j < 10 ∧ k = j + 1 ∧ x = (q + 1 + j, .inl (D.1 7, 41, .inl (fun _ => 0))) := by
  match k, h with
  | 0, h => cases h; exact Or.inl ⟨rfl, rfl⟩
  | 1, h => cases h; exact Or.inr ⟨0, by omega, rfl, rfl⟩
  | 2, h => cases h; exact Or.inr ⟨1, by omega, rfl, rfl⟩
  | 3, h => cases h; exact Or.inr ⟨2, by omega, rfl, rfl⟩
  | 4, h => cases h; exact Or.inr ⟨3, by omega, rfl, rfl⟩
  | 5, h => cases h; exact Or.inr ⟨4, by omega, rfl, rfl⟩
  | 6, h => cases h; exact Or.inr ⟨5, by omega, rfl, rfl⟩
  | 7, h => cases h; exact Or.inr ⟨6, by omega, rfl, rfl⟩
  | 8, h => cases h; exact Or.inr ⟨7, by omega, rfl, rfl⟩
  | 9, h => cases h; exact Or.inr ⟨8, by omega, rfl, rfl⟩
  | 10, h => cases h; exact Or.inr ⟨9, by omega, rfl, rfl⟩
  | k + 11, h => cases h
section JM
variable {Z : jX → Prop} {G : jX} {D : va_G} {cc : ByteArray} {own : String} {Ts : List Cond} {rm : Room} {nl : Nat} {pc nc ns : Nat} {lv : List (Nat × Value)} {st : List Value} {ws : va_W}
theorem jn_mna {idx : Nat} (hZ : jNE Z) (C : KQ Z (jR G nc ns) D cc own Ts rm nl) (hcl : Cond.classLink own idx "[[I" ∈ Ts) (harr : Cond.arrayClass .int ∈ Ts) (h1 : nc + 11 ≤ rm.cells) (h2 : ns + 420 ≤ rm.slots) (hdg : decode cc pc = .ok (.multianewarray idx 2, 4)) (kk : ∀ q, JW (jR G (nc + 11) (ns + 420)) D (pc + 4) lv (.ref q :: st) (ws ++ mnW D q)) : JW (jR G nc ns) D pc lv (.int 41 :: .int 10 :: st) ws := by
  obtain ⟨p, l, e, R, s, m, args, below, meth, c, A, nL, Q, a9, b9⟩ := G
  obtain ⟨hx, hb, hml, hnl, hown, hts, hK, hA, hRm, -, -, hz⟩ := C
  subst hRm
  have hE : nE s := (hZ _ _ _ _ _ _ _ _ _ _ _ _ _ _ _ hz).1
  intro H locs ls hP hD hS hl
  intro T hT X
  obtain ⟨comp, cA, kA, fC, hkA, hkindA, fA⟩ := AOA_spec hE.2.2.2.2.2.2.2.2.2
  obtain ⟨cI, kI, c0, fI, hkI, hkindI⟩ := Cond.arrayClass_spec (hts _ harr)
  have eI : cI = comp := Option.some.inj (fI.symm.trans fC)
  have ec : comp = D.1 7 := Option.some.inj (fC.symm.trans (hK.2 0 _ rfl).2)
  have eA : cA = D.1 11 := Option.some.inj (fA.symm.trans (hK.2 4 _ rfl).2)
  subst eI ec eA
  obtain ⟨cL, fL, hL0⟩ := Cond.classLink_spec hown (hts _ hcl) e.platform (by rw [X.admits.platform])
  have eL : cL = D.1 11 := Option.some.inj (fL.symm.trans fA)
  subst eL
  obtain ⟨hg₁, hwarm₁, hready₁⟩ := State.classEntry (e := e) X.warmed hL0
  generalize T.vm.noted m.cls idx (.cls (D.1 11)) = vm₁ at hg₁ hwarm₁ hready₁
  obtain ⟨kA₁, hkA₁, heA⟩ := hwarm₁.alike.2.2 _ _ hkA
  obtain ⟨kI₁, hkI₁, heI⟩ := hwarm₁.alike.2.2 _ _ hkI
  have hkindA₁ : kA₁.kind = .array (D.1 7) FieldType.int.array := by rw [heA]; exact hkindA
  have hkindI₁ : kI₁.kind = .array c0 FieldType.int := by rw [heI]; exact hkindI
  have hsz : vm₁.classes.size ≤ T.vm.classes.size := (X.warmed.alike.symm.trans hwarm₁.alike).size_le
  have hlim := Launch.admits_arrayLengthLimit X.admits
  have hmax := Launch.admits_maxHeapBytes X.admits
  have hTh : (T.setVm vm₁).heap = H := hT
  have n10 : (10 : Int32).toNatClampNeg = 10 := by decide
  have n41 : (41 : Int32).toNatClampNeg = 41 := by decide
  obtain ⟨hr1, hr2⟩ := X.roomAbove h1 h2
  obtain ⟨L, hL, X'⟩ := gr_stand (T.setVm vm₁) (D.1 11) (D.1 7) 10 41 (defaultValue .int) (X.noted hwarm₁) 10
  have step : ∀ t2, Steps p.tables e below ((gr_u (T.setVm vm₁) (D.1 11) (D.1 7) 10 41 (defaultValue .int) 10).setTop (F0 m (pc + 4) ls (.ref H.size :: st))) t2 → Steps p.tables e below (T.setTop (F0 m pc ls (.int 41 :: .int 10 :: st))) t2 := fun t2 h9 => by
    refine Steps.instr (c := c) (f := F0 m pc ls (.int 41 :: .int 10 :: st)) X.here ?_
    have e9 : decode c.code (F0 m pc ls (.int 41 :: .int 10 :: st)).pc = .ok (.multianewarray idx 2, 4) := by rw [hb]; exact hdg
    rw [e9]
    show wpRun (p.tables.exec (.multianewarray idx 2)) _ _ e _
    rw [hx]
    show wp (multianewarray.sem idx 2) _ _ e false [] (T.setTop (F0 m pc ls (.int 41 :: .int 10 :: st)))
    refine gr_cold X.here.top hg₁ hready₁ hsz ?_
    refine gr_wsem (T := T.setVm vm₁) (n := 10) (m := 41) (rest := st) X.here.top hready₁ rfl hkA₁ hkindA₁ rfl (fun _ => rfl) hkI₁ hkindI₁ (by decide) (by decide) (by decide) (by rw [hlim, n10]; decide) (by rw [hmax, n10]; decide) (by rw [hlim, n41]; decide) (by rw [hmax, n41]; decide) (by rw [n10]; exact hr1) (by rw [n10, n41]; exact hr2) rfl (fun b' acts' => ?_)
    show ∀ acts, Steps p.tables e below (afterInstr e 4 (.ok () _ acts)).1 t2
    intro acts
    rw [afterInstr_ok, n10, n41]
    show Steps p.tables e below ((gr_u (T.setVm vm₁) (D.1 11) (D.1 7) 10 41 (defaultValue .int) 10).setTop (F0 m (pc + 4) ls (.ref (T.setVm vm₁).heap.size :: st))) t2
    rw [hTh]
    exact h9
  have f1 := gr_size (T.setVm vm₁) (D.1 11) (D.1 7) 10 41 (defaultValue .int) 10
  have f2 := gr_out (T.setVm vm₁) (D.1 11) (D.1 7) 10 41 (defaultValue .int) 10
  have f3 := fun (x : Nat) (h : x < (T.setVm vm₁).heap.size) => gr_old (T.setVm vm₁) (D.1 11) (D.1 7) 10 41 (defaultValue .int) 10 h
  have f4 := gr_in (T.setVm vm₁) (D.1 11) (D.1 7) 10 41 (defaultValue .int) 10
  generalize gr_u (T.setVm vm₁) (D.1 11) (D.1 7) 10 41 (defaultValue .int) 10 = F at X' step f1 f2 f3 f4
  rw [hTh] at hL f1 f2 f3 f4
  have hold : ∀ x : Nat, x < H.size → F.heap[x]? = H[x]? := f3
  have hrow : ∀ j : Nat, j < 10 → F.heap[H.size + 1 + j]? = some (vp_cell (D.1 7) (41, .inl (fun _ => 0))) := fun j hj => (f4 j hj).trans rfl
  have hf2 : F.heap[H.size]? = some (vp_cell (D.1 11) (10, .inr (.inr (.inr (.inr (fun i => if i < 10 then some (H.size + 1 + i) else none)))))) := f2
  have hP0 : va_P D vwCl ws F.heap := hP.kept (fun k9 x hx => hold x.1 ((hP k9 x hx).lt))
  have hPn : va_P D vwCl (mnW D H.size) F.heap := fun k x hx => by
    rcases mnW_at hx with ⟨-, rfl⟩ | ⟨j, hj, -, rfl⟩
    · exact hf2
    · exact hrow j hj
  have hDn : va_D A (mnW D H.size) := by
    have ad : ∀ k x, (mnW D H.size)[k]? = some x → x.1 = H.size + k := fun k x hx => by
      rcases mnW_at hx with ⟨rfl, rfl⟩ | ⟨j, hj, rfl, rfl⟩
      · rfl
      · show H.size + 1 + j = H.size + (j + 1); omega
    refine ⟨fun i j x y hi hj hxy => ?_, fun k x hx => ?_⟩
    · have := ad i x hi; have := ad j y hj; omega
    · rw [ad k x hx]; exact hA _ (Nat.le_trans hS.1 (Nat.le_add_right _ _))
  have hD2 : va_D A (ws ++ mnW D H.size) := hD.app hDn (fun i j x y hi hj => by
    have h3 := (hP i x hi).lt
    rcases mnW_at hj with ⟨-, rfl⟩ | ⟨j, hj, -, rfl⟩
    · exact Nat.ne_of_lt h3
    · show x.1 ≠ H.size + 1 + j; omega)
  have hS2 : va_S A s.heap F.heap (locs ++ L) := ⟨Nat.le_trans hS.1 (by rw [f1]; omega), fun x g1 g2 => (hold x (Nat.lt_of_lt_of_le g1 hS.1)).trans (hS.2.1 x g1 g2), fun q hq => by
    rcases List.mem_append.mp hq with h | h
    · exact hS.2.2 q h
    · rw [hL q h]; exact hA _ hS.1⟩
  obtain ⟨t2, a1, b1⟩ := kk H.size F.heap (locs ++ L) ls (hP0.app hPn) hD2 hS2 hl F rfl X'
  exact ⟨t2, step t2 a1, b1⟩
end JM
