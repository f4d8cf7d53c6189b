/-! THE CLAIM OUT OF ONE WALK OF THE LAW'S BODY. Your part is whole_start (and what it stands on); all else here is the same for every law, but numbers. -/
def R_law : String := "CellsInRowLaw"
def lw_P (b : Addr) (xs : List Int32) (args : Array Value) (s : State) : Prop := args = #[.ref b] ∧ s.IntsAt b xs ∧ xs.length ≤ 2560 ∧ (Jvm.Cond.and given_1 narrow_1).before args s = true
def lw_Q (_ : Array Value) (s : State) (o : Outcome) (t : State) : Prop := o = .returned (some (.int 1)) ∧ Framed s o t [] 600000 7302250
def lw_Z (below : List Frame) (a : Array Value) (s : State) : State → Prop := fun t => ∃ o, t.status = .running ∧ Ended t below o ∧ lw_Q a s o t
/-- the law's own end, with 1 on the stack, nothing written that was there before, its room as the claim has it -/
theorem lw_ret {p : Program} {l : Launch} {e : Env} {s : State} {m : MethodId} {below : List Frame} {meth : Method} {c : Code} {b : Nat} (hx : p.tables.exec = Jvm.exec) (hb : c.code = code) (hr : meth.sig.returnType = ret) (hlocks : meth.locks = false) {pc : Nat} {H : Heap} {ls : Array Slot} (hdg : decode code pc = .ok (.ireturn, 1)) : W p l e room_1 s m #[Value.ref b] below meth c H [] 600000 7302250 (lw_Z below #[Value.ref b] s) (F0 m pc ls [.int 1]) := by
  intro T hT X
  obtain ⟨fs, hret, hrun, hended, hW, hframe⟩ := X.leave (v := some (.int 1)) (hlocks := hlocks) (fun h => by rw [hr] at h; cases h)
  have hmeth' : T.vm.method? m = some meth := X.method'
  refine ⟨T.setFrames fs, ?_, .returned (some (.int 1)), hrun, hended, rfl, ⟨_, rfl⟩, hW, hframe⟩
  jvm_step X.here [X.here.top, hx, hb, hdg, hmeth', hr, ret, narrow_b1]
  (try refine ⟨rfl, ?_⟩); (try refine ⟨rfl, ?_⟩)
  first | (intro acts; rw [hret _ acts rfl rfl rfl]) | rw [hret _ _ rfl rfl rfl]
  exact Steps.refl _
/-- what holds at the law's entry: the machine, the code, the tables' words (any of lw_tbl by 'hts w (by decide +kernel)'), the script of L ints xs at the cell b, what the Statement gives of the start (any of its parts by flat_of_before) -/
def lw_At (p : Program) (s : State) (m : MethodId) (meth : Method) (c : Code) (b L : Nat) (xs : Nat → Int32) : Prop :=
  p.tables.exec = Jvm.exec ∧ c.code = code ∧ meth.sig.returnType = ret ∧ c.maxLocals = 4 ∧ s.vm.findClass R_law = some m.cls ∧ (∀ w ∈ lw_tbl, w.before #[Value.ref b] s = true) ∧ va_X b L xs s s.heap ∧ b < s.heap.size ∧ meth.locks = false ∧ (Jvm.Cond.and given_1 narrow_1).before #[Value.ref b] s = true
/-! the law's own walk -/
def lawZ (b L : Nat) (xs : Nat → Int32) (aK aV : Nat → Nat) : jX → Prop := fun G => match G with
  | (_, _, _, _, s, _, args, below, meth, _, A, _, Q, _, _) => meth.sig.returnType = ret ∧ meth.locks = false ∧ args = #[Value.ref b] ∧ Q = lw_Z below #[Value.ref b] s ∧ (A = fun q => s.heap.size ≤ q) ∧ va_X b L xs s s.heap ∧ b < s.heap.size ∧ jS aK aV A s ∧ nE s
theorem lawZ_ne (b L : Nat) (xs : Nat → Int32) (aK aV : Nat → Nat) : jNE (lawZ b L xs aK aV) := fun _ _ _ _ _ _ _ _ _ _ _ _ _ _ _ h => ⟨h.2.2.2.2.2.2.2.2, fun _ _ => h⟩
section LK
variable {b L : Nat} {xs : Nat → Int32} {aK aV : Nat → Nat} {G : jX} {D : va_G} {cc : ByteArray} {own : String} {Ts : List Cond} {rm : Room} {nl : Nat} {pc : Nat} {lv : List (Nat × Value)} {st : List Value} {ws : va_W}
theorem l_sld {i : Int32} {v : Int32} (C : KQ (lawZ b L xs aK aV) G D cc own Ts rm nl) (hin : vp_in i L) (hv : xs i.toNatClampNeg = v) (hdg : decode cc pc = .ok (.iaload, 1)) (kk : JW G D (pc + 1) lv (.int v :: st) ws) : JW G D pc lv (.int i :: .ref b :: st) ws := by
  obtain ⟨p, l, e, R, s, m, args, below, meth, c, A, nL, Q, nc, ns⟩ := G
  obtain ⟨hx, hb, hml, hnl, hown, hts, hK, hA, hRm, -, -, -, -, -, -, hAA, hX, hbl, -, -⟩ := C
  subst hv
  intro H locs ls hP hD hS hl
  exact va_sld hx hb hX hbl (by rw [hAA]; exact Nat.not_le.mpr hbl) hS hin hdg (kk H locs ls hP hD hS hl)
theorem l_slen (C : KQ (lawZ b L xs aK aV) G D cc own Ts rm nl) (hdg : decode cc pc = .ok (.arraylength, 1)) (kk : JW G D (pc + 1) lv (.int (nI L) :: st) ws) : JW G D pc lv (.ref b :: st) ws := by
  obtain ⟨p, l, e, R, s, m, args, below, meth, c, A, nL, Q, nc, ns⟩ := G
  obtain ⟨hx, hb, hml, hnl, hown, hts, hK, hA, hRm, -, -, -, -, -, -, hAA, hX, hbl, -, -⟩ := C
  intro H locs ls hP hD hS hl
  exact va_slen hx hb hX hbl (by rw [hAA]; exact Nat.not_le.mpr hbl) hS hdg (kk H locs ls hP hD hS hl)
theorem l_end (C : KQ (lawZ b L xs aK aV) G D code own Ts room_1 nl) (hdg : decode code pc = .ok (.ireturn, 1)) : JW G D pc lv [.int 1] ws := by
  obtain ⟨p, l, e, R, s, m, args, below, meth, c, A, nL, Q, nc, ns⟩ := G
  obtain ⟨hx, hb, hml, hnl, hown, hts, hK, hA, hRm, hnc, hns, hr, hlk, hargs, hQ, hAA, hX, hbl, -, -⟩ := C
  subst hRm
  subst hargs
  subst hQ
  intro H locs ls hP hD hS hl
  exact W.widen hnc hns (va_forget (fun q hq => by have := hS.2.2 q hq; rw [hAA] at this; exact this) (lw_ret hx hb hr hlk hdg))
/-- an argument of the script: xs (I + n) -/
theorem l_arg {I n : Nat} {v w : Int32} {q0 q3 : Nat} {k0 k3 : Fin 4} (C : KQ (lawZ b L xs aK aV) G D cc own Ts rm nl) (hI : I + 5 ≤ L) (hL : L ≤ 2560) (hn : n < 5) (hw : w = nI n) (hv : xs (I + n) = v) (h0 : lv[q0]? = some ((k0 : Nat), .ref b)) (h3 : lv[q3]? = some ((k3 : Nat), .int (nI I))) {z : Int} (hz : Int32.ofInt z = w) (d0 : decode cc pc = .ok (.aload_n k0, 1)) (d1 : decode cc (pc + 1) = .ok (.iload_n k3, 1)) (d2 : decode cc (pc + 2) = .ok (.iconst z, 1)) (d3 : decode cc (pc + 3) = .ok (.iadd, 1)) (d4 : decode cc (pc + 4) = .ok (.iaload, 1)) (kk : JW G D (pc + 5) lv (.int v :: st) ws) : JW G D pc lv st ws := by
  have e : nI I + nI n = nI (I + n) := nI_add I n
  refine j_aload_n C q0 h0 d0 ?_
  refine j_iload_n C q3 h3 d1 ?_
  refine j_iconst w C hz d2 ?_
  refine j_iadd C d3 ?_
  subst hw
  rw [e]
  have hlt : I + n < 2 ^ 31 := by omega
  refine l_sld (v := v) C (vp_in_nI (by omega) (by omega)) ?_ d4 kk
  rw [nI_clamp hlt]
  exact hv
theorem l_arg0 {I : Nat} {v : Int32} {q0 q3 : Nat} {k0 k3 : Fin 4} (C : KQ (lawZ b L xs aK aV) G D cc own Ts rm nl) (hI : I + 5 ≤ L) (hL : L ≤ 2560) (hv : xs I = v) (h0 : lv[q0]? = some ((k0 : Nat), .ref b)) (h3 : lv[q3]? = some ((k3 : Nat), .int (nI I))) (d0 : decode cc pc = .ok (.aload_n k0, 1)) (d1 : decode cc (pc + 1) = .ok (.iload_n k3, 1)) (d4 : decode cc (pc + 2) = .ok (.iaload, 1)) (kk : JW G D (pc + 3) lv (.int v :: st) ws) : JW G D pc lv st ws := by
  refine j_aload_n C q0 h0 d0 ?_
  refine j_iload_n C q3 h3 d1 ?_
  have hlt : I < 2 ^ 31 := by omega
  refine l_sld (v := v) C (vp_in_nI (by omega) (by omega)) ?_ d4 kk
  rw [nI_clamp hlt]
  exact hv
theorem l_eq {r : Int32} {off : Int} {Z : jX → Prop} (tgt : Nat) (C : KQ Z G D cc own Ts rm nl) (ht : (pc : Int) + off = (tgt : Int)) (hdg : decode cc pc = .ok (.if_icmp .eq off, 3)) (kk : JW G D tgt lv st ws) : JW G D pc lv (.int r :: .int r :: st) ws :=
  j_icmp_eq (α := Unit) (a := some ()) (b := none) (o := ()) tgt C (if_pos rfl) ht hdg (fun _ => kk) (fun h => by cases h)
theorem lg_cmp_self (r : Int64) : lg_cmp r r = 0 := by
  unfold lg_cmp
  rw [if_neg (show ¬ r > r from Int64.lt_irrefl), if_pos rfl]
theorem l_eqL {r : Int64} {off : Int} {Z : jX → Prop} (tgt : Nat) (C : KQ Z G D cc own Ts rm nl) (ht : ((pc + 1 : Nat) : Int) + off = (tgt : Int)) (hd0 : decode cc pc = .ok (.lcmp, 1)) (hdg : decode cc (pc + 1) = .ok (.ifCond .eq off, 3)) (kk : JW G D tgt lv st ws) : JW G D pc lv (.long r :: .long r :: st) ws :=
  j_lcmp C hd0 (j_if_eq (α := Unit) (a := some ()) (b := none) (o := ()) tgt C (if_pos (lg_cmp_self r)) ht hdg (fun _ => kk) (fun h => by cases h))
theorem l_callVE {b9 : Nat} {y : MethodName} {wds : List Cond} {cc2 : ByteArray} {nl2 n idx N : Nat} {rt2 : Option FieldType} {rm2 : Room} {b qr ci : Nat} {fs : List Value} {Cn : String} {T : u_T} {N0 : Nat} {v : Option Value} {wc wc2 : va_W} (As st : List Value) (stk st2 : List Value) (ws2 wr : va_W) (ad : List Nat) (isC isR : List Nat) (C : KQ (lawZ b9 L xs aK aV) G D cc own Ts rm nl) (hM : ∀ l, MWE (jS aK aV) l y wds rm2 D (.ref b :: As) wc v wc2) (K : CK y wds cc2 nl2 rt2 n) (hG : GoodIn Ts (wsV own idx Cn y wds)) (hroom : rm2.cells = 0 ∧ rm2.slots = 0) (hR : rm2.frames + 1 ≤ rm.frames ∧ 8 + (nl2 + 11) + rm2.locals ≤ rm.locals) (hn : As.length = n) (hcl : y.cls = Cn) (hrc : vwCl[ci]? = some (Cn, T, N0)) (her : ws[qr]? = some (b, .inr (ci, fs))) (hstk : stk = As.reverse ++ .ref b :: st) (hst2 : v.toList ++ st = st2) (hcat : (st.map fun v => v.category).sum ≤ 8) (hC : isC.map (fun i => ws[i]?) = wc.map some) (hC2 : isC.map (fun i => ws2[i]?) = wc2.map some) (hRR : isR.map (fun i => ws[i]?) = wr.map some) (hRR2 : isR.map (fun i => ws2[i]?) = wr.map some) (hnd : va_nd isC = true) (hdis : ∀ i ∈ isR, i ∉ isC) (hcov : ∀ k, k < N → k ∈ isC ∨ k ∈ isR) (hlen : ws2.length = N) (hadr : ws.map Prod.fst = ad) (hadr2 : ws2.map Prod.fst = ad) (hdg : decode cc pc = .ok (.invokevirtual idx, 3)) (kk : JW G D (pc + 3) lv st2 ws2) : JW G D pc lv stk ws := by
  obtain ⟨p, l, e, R, s, m, args, below, meth, c, A, nL, Q, nc, ns⟩ := G
  obtain ⟨hx, hb, hml, hnl, hown, hts, hK, hA, hRm, hnc, hns, hZ⟩ := C
  have hE := hZ.2.2.2.2.2.2.2.1
  subst hRm
  subst hstk
  subst hst2
  obtain ⟨w', hw'⟩ : ∃ w', wds = Cond.code y cc2 nl2 rt2 :: w' := by
    cases wds with
    | nil => cases K.1
    | cons a t => exact ⟨t, by rw [Option.some.inj K.1]⟩
  intro H locs ls hP hD hS hl
  have hFc : ∀ q, va_A wc H.size q → A q := va_free hD hS hA isC hC
  have hPc := j_subP hP isC hC
  have hDc : va_D (fun _ => True) wc := (hD.sub isC hnd hC).same_list
  subst hcl
  have run := va_runV (l := l) (e := e) (below := below) (meth := meth) (H := H) (locs := locs) (cells := nc) (slots := ns) (As := As) (rest := st) (b := b) (g := F0 m pc ls (As.reverse ++ .ref b :: st)) ⟨hx, hb, hml, hown, hts⟩ (hM l H.size) (cwV n hts hG hw' hroom.1 hroom.2 ⟨rfl, K.2⟩ hR) ⟨j_blind jS_bl, va_recv hK hP hrc her, fun U hU hW => ⟨rfl, by rw [hU], by rw [hU]; exact hPc, va_K.moved hW.alike hK, hDc, jS_ET A _ s U hE hFc hW (by rw [hU]; exact hS.1) (fun a h1 h2 => by rw [hU]; exact hS.2.1 a h1 h2)⟩⟩ rfl hn hl.1 rfl (lv_room hcat) hdg ⟨hnc, hns⟩
  intro T0 hT X
  obtain ⟨v2, st₀, t, T', L, h0, X', hL, e1, e2, ⟨⟨hv, hP1, hK1, hD1⟩, hz, hkq⟩, stp⟩ := run T0 hT X
  have hvv : v2 = v := by injection hv
  subst hvv
  rw [h0] at hz hkq
  have hP2 : va_P D vwCl ws2 T'.heap := by
    rw [e1]
    exact j_after isC isR hP hD hC hC2 hRR hRR2 hdis hcov hlen hkq hP1
  have hS2 : va_S A s.heap T'.heap (locs ++ L) := ⟨Nat.le_trans hS.1 (by rw [e1]; exact hz), fun q h1 h2 => by rw [e1, hkq q (Nat.lt_of_lt_of_le h1 hS.1) (fun z => h2 (hFc q z))]; exact hS.2.1 q h1 h2, fun q hq => by
      rcases List.mem_append.mp hq with h | h
      · exact hS.2.2 q h
      · exact hFc _ (hL q h)⟩
  obtain ⟨t2, a1, b1⟩ := kk T'.heap (locs ++ L) ls hP2 (hD.same (hadr.trans hadr2.symm)) hS2 hl T' rfl X'
  exact ⟨t2, stp t2 a1, b1⟩
end LK
