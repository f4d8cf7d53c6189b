/-- the String constants, and the statics that their methods read -/
def jS (aK aV : Nat → Nat) : (Nat → Prop) → State → Prop := fun A s => vk_S 5 lenJ bytJ aK aV A s s.heap ∧ (vk_R RX4 48 "plan" (aK 0) s ∧ vk_R RX4 87 "plain" (aK 1) s ∧ vk_R RX4 89 "bleed" (aK 2) s ∧ vk_R RX4 91 "share" (aK 3) s ∧ vk_R RX4 93 "pump" (aK 4) s) ∧ va_Z "java/lang/String" "COMPACT_STRINGS" "Z" (.int 1) A s s.heap ∧ va_Zq "jdk/internal/util/Preconditions" "SIOOBE_FORMATTER" "Ljava/util/function/BiFunction;" A s s.heap
theorem jS_bl {aK aV : Nat → Nat} : ∀ (B : Nat → Prop) (U : State) (g : JFrame) (mk : MethodId) (a : Array Value), jS aK aV B U → jS aK aV B (U.calling g mk a) := by
  intro B U g mk a h
  obtain ⟨h1, ⟨r0, r1, r2, r3, r4⟩, h3, h4⟩ := h
  have hvm : U.vm.Alike (U.calling g mk a).vm := Vm.Alike.refl U.vm
  exact ⟨vk_S.moved (u := U) hvm h1, ⟨vk_R.same (u := U) rfl r0, vk_R.same (u := U) rfl r1, vk_R.same (u := U) rfl r2, vk_R.same (u := U) rfl r3, vk_R.same (u := U) rfl r4⟩, va_Z.moved (u := U) hvm h3, va_Zq.moved (u := U) hvm h4⟩
theorem jS_ET {aK aV : Nat → Nat} : ∀ (A B : Nat → Prop) (s U : State), jS aK aV A s → (∀ q, B q → A q) → s.WarmedH U.vm → s.heap.size ≤ U.heap.size → (∀ a, a < s.heap.size → ¬ A a → U.heap[a]? = s.heap[a]?) → jS aK aV B U := by
  intro A B s U h hAB hW _ hq
  obtain ⟨h1, ⟨r0, r1, r2, r3, r4⟩, h3, h4⟩ := h
  exact ⟨(vk_S.moved hW.alike (h1.kept hq)).narrow hAB, ⟨vk_R.warm hW r0, vk_R.warm hW r1, vk_R.warm hW r2, vk_R.warm hW r3, vk_R.warm hW r4⟩, (va_Z.moved hW.alike (h3.kept hq)).narrow hAB, (va_Zq.moved hW.alike (h4.kept hq)).narrow hAB⟩
section JSTR
variable {aK aV : Nat → Nat} {G : jX} {D : va_G} {cc : ByteArray} {own : String} {Ts : List Cond} {rm : Room} {nl : Nat} {rt : Option FieldType} {v0 : Option Value} {w0 : va_W} {pc : Nat} {lv : List (Nat × Value)} {st : List Value} {ws : va_W}
theorem j_ldcS0 (C : KCE (jS aK aV) G D cc RX4 Ts rm nl rt v0 w0) (hdg : decode cc pc = .ok (.ldc 48, 2)) (kk : JW G D (pc + 2) lv (.ref (aK 0) :: st) ws) : JW G D pc lv st ws := by
  obtain ⟨p, l, e, R, s, m, args, below, meth, c, A, nL, Q, nc, ns⟩ := G
  obtain ⟨hx, hb, hml, hnl, hown, hts, hK, hA, hR, hnc, hns, hr, hlocks, hQ, hn0, hs0, hE⟩ := C
  exact fun H locs ls hP hD hS hl => va_ldcS hx hb hown hE.2.1.1 hdg (kk H locs ls hP hD hS hl)
theorem j_ldcS1 (C : KCE (jS aK aV) G D cc RX4 Ts rm nl rt v0 w0) (hdg : decode cc pc = .ok (.ldc 87, 2)) (kk : JW G D (pc + 2) lv (.ref (aK 1) :: st) ws) : JW G D pc lv st ws := by
  obtain ⟨p, l, e, R, s, m, args, below, meth, c, A, nL, Q, nc, ns⟩ := G
  obtain ⟨hx, hb, hml, hnl, hown, hts, hK, hA, hR, hnc, hns, hr, hlocks, hQ, hn0, hs0, hE⟩ := C
  exact fun H locs ls hP hD hS hl => va_ldcS hx hb hown hE.2.1.2.1 hdg (kk H locs ls hP hD hS hl)
theorem j_ldcS2 (C : KCE (jS aK aV) G D cc RX4 Ts rm nl rt v0 w0) (hdg : decode cc pc = .ok (.ldc 89, 2)) (kk : JW G D (pc + 2) lv (.ref (aK 2) :: st) ws) : JW G D pc lv st ws := by
  obtain ⟨p, l, e, R, s, m, args, below, meth, c, A, nL, Q, nc, ns⟩ := G
  obtain ⟨hx, hb, hml, hnl, hown, hts, hK, hA, hR, hnc, hns, hr, hlocks, hQ, hn0, hs0, hE⟩ := C
  exact fun H locs ls hP hD hS hl => va_ldcS hx hb hown hE.2.1.2.2.1 hdg (kk H locs ls hP hD hS hl)
theorem j_ldcS3 (C : KCE (jS aK aV) G D cc RX4 Ts rm nl rt v0 w0) (hdg : decode cc pc = .ok (.ldc 91, 2)) (kk : JW G D (pc + 2) lv (.ref (aK 3) :: st) ws) : JW G D pc lv st ws := by
  obtain ⟨p, l, e, R, s, m, args, below, meth, c, A, nL, Q, nc, ns⟩ := G
  obtain ⟨hx, hb, hml, hnl, hown, hts, hK, hA, hR, hnc, hns, hr, hlocks, hQ, hn0, hs0, hE⟩ := C
  exact fun H locs ls hP hD hS hl => va_ldcS hx hb hown hE.2.1.2.2.2.1 hdg (kk H locs ls hP hD hS hl)
theorem j_ldcS4 (C : KCE (jS aK aV) G D cc RX4 Ts rm nl rt v0 w0) (hdg : decode cc pc = .ok (.ldc 93, 2)) (kk : JW G D (pc + 2) lv (.ref (aK 4) :: st) ws) : JW G D pc lv st ws := by
  obtain ⟨p, l, e, R, s, m, args, below, meth, c, A, nL, Q, nc, ns⟩ := G
  obtain ⟨hx, hb, hml, hnl, hown, hts, hK, hA, hR, hnc, hns, hr, hlocks, hQ, hn0, hs0, hE⟩ := C
  exact fun H locs ls hP hD hS hl => va_ldcS hx hb hown hE.2.1.2.2.2.2 hdg (kk H locs ls hP hD hS hl)
theorem j_sval {w idx : Nat} (C : KCE (jS aK aV) G D cc own Ts rm nl rt v0 w0) (hw : w < 5) (hlk : Cond.fieldLink own idx "java/lang/String" "value" "[B" ∈ Ts) (hdg : decode cc pc = .ok (.getfield idx, 3)) (kk : JW G D (pc + 3) lv (.ref (aV w) :: st) ws) : JW G D pc lv (.ref (aK w) :: st) ws := by
  obtain ⟨p, l, e, R, s, m, args, below, meth, c, A, nL, Q, nc, ns⟩ := G
  obtain ⟨hx, hb, hml, hnl, hown, hts, hK, hA, hR, hnc, hns, hr, hlocks, hQ, hn0, hs0, hE⟩ := C
  exact fun H locs ls hP hD hS hl => vk_getf hx hb (hE.1.1 w hw).2.2.1 hS hown (hts _ hlk) (fun _ h => h) hdg (kk H locs ls hP hD hS hl)
theorem j_scod {w idx : Nat} (C : KCE (jS aK aV) G D cc own Ts rm nl rt v0 w0) (hw : w < 5) (hlk : Cond.fieldLink own idx "java/lang/String" "coder" "B" ∈ Ts) (hdg : decode cc pc = .ok (.getfield idx, 3)) (kk : JW G D (pc + 3) lv (.int 0 :: st) ws) : JW G D pc lv (.ref (aK w) :: st) ws := by
  obtain ⟨p, l, e, R, s, m, args, below, meth, c, A, nL, Q, nc, ns⟩ := G
  obtain ⟨hx, hb, hml, hnl, hown, hts, hK, hA, hR, hnc, hns, hr, hlocks, hQ, hn0, hs0, hE⟩ := C
  exact fun H locs ls hP hD hS hl => vk_getf hx hb (hE.1.1 w hw).2.1 hS hown (hts _ hlk) (fun _ h => h) hdg (kk H locs ls hP hD hS hl)
theorem j_sal {w : Nat} (C : KCE (jS aK aV) G D cc own Ts rm nl rt v0 w0) (hw : w < 5) (hdg : decode cc pc = .ok (.arraylength, 1)) (kk : JW G D (pc + 1) lv (.int (nI (lenS w)) :: st) ws) : JW G D pc lv (.ref (aV w) :: st) ws := by
  obtain ⟨p, l, e, R, s, m, args, below, meth, c, A, nL, Q, nc, ns⟩ := G
  obtain ⟨hx, hb, hml, hnl, hown, hts, hK, hA, hR, hnc, hns, hr, hlocks, hQ, hn0, hs0, hE⟩ := C
  exact fun H locs ls hP hD hS hl => va_tlen hx hb (hE.1.1 w hw).2.2.2 hS rfl hdg (kk H locs ls hP hD hS hl)
theorem j_sbl {w : Nat} {i : Int32} (C : KCE (jS aK aV) G D cc own Ts rm nl rt v0 w0) (hw : w < 5) (hin : vp_in i (lenS w)) (hdg : decode cc pc = .ok (.baload, 1)) (kk : JW G D (pc + 1) lv (.int (chS w i.toNatClampNeg) :: st) ws) : JW G D pc lv (.int i :: .ref (aV w) :: st) ws := by
  obtain ⟨p, l, e, R, s, m, args, below, meth, c, A, nL, Q, nc, ns⟩ := G
  obtain ⟨hx, hb, hml, hnl, hown, hts, hK, hA, hR, hnc, hns, hr, hlocks, hQ, hn0, hs0, hE⟩ := C
  exact fun H locs ls hP hD hS hl => va_tb hx hb (hE.1.1 w hw).2.2.2 hS hin rfl hdg (kk H locs ls hP hD hS hl)
theorem j_sgs {idx : Nat} (C : KCE (jS aK aV) G D cc own Ts rm nl rt v0 w0) (hlk : Cond.fieldLink own idx "java/lang/String" "COMPACT_STRINGS" "Z" ∈ Ts) (hdg : decode cc pc = .ok (.getstatic idx, 3)) (kk : JW G D (pc + 3) lv (.int 1 :: st) ws) : JW G D pc lv st ws := by
  obtain ⟨p, l, e, R, s, m, args, below, meth, c, A, nL, Q, nc, ns⟩ := G
  obtain ⟨hx, hb, hml, hnl, hown, hts, hK, hA, hR, hnc, hns, hr, hlocks, hQ, hn0, hs0, hE⟩ := C
  exact fun H locs ls hP hD hS hl => va_gets hx hb hE.2.2.1 hS hown (hts _ hlk) (fun _ h => h) hdg (kk H locs ls hP hD hS hl)
theorem j_sgf {idx : Nat} (C : KCE (jS aK aV) G D cc own Ts rm nl rt v0 w0) (hlk : Cond.fieldLink own idx "jdk/internal/util/Preconditions" "SIOOBE_FORMATTER" "Ljava/util/function/BiFunction;" ∈ Ts) (hdg : decode cc pc = .ok (.getstatic idx, 3)) (kk : ∀ v : Value, v.category = 1 → JW G D (pc + 3) lv (v :: st) ws) : JW G D pc lv st ws := by
  obtain ⟨p, l, e, R, s, m, args, below, meth, c, A, nL, Q, nc, ns⟩ := G
  obtain ⟨hx, hb, hml, hnl, hown, hts, hK, hA, hR, hnc, hns, hr, hlocks, hQ, hn0, hs0, hE⟩ := C
  intro H locs ls hP hD hS hl
  rcases hE.2.2.2 with h | ⟨t, h⟩
  · exact va_gets hx hb h hS hown (hts _ hlk) (fun _ h => h) hdg (kk .null rfl H locs ls hP hD hS hl)
  · exact va_gets hx hb h hS hown (hts _ hlk) (fun _ h => h) hdg (kk (.ref t) rfl H locs ls hP hD hS hl)
theorem j_i2c {x : Int32} (v : Int32) (C : KCE (jS aK aV) G D cc own Ts rm nl rt v0 w0) (hv : (x.toUInt32 % 65536).toInt32 = v) (hdg : decode cc pc = .ok (.i2c, 1)) (kk : JW G D (pc + 1) lv (.int v :: st) ws) : JW G D pc lv (.int x :: st) ws := by
  obtain ⟨p, l, e, R, s, m, args, below, meth, c, A, nL, Q, nc, ns⟩ := G
  obtain ⟨hx, hb, hml, hnl, hown, hts, hK, hA, hR, hnc, hns, hr, hlocks, hQ, hn0, hs0, hE⟩ := C
  exact fun H locs ls hP hD hS hl => lv_i2c hx hb hdg hv (kk H locs ls hP hD hS hl)
theorem j_nret {x : Int32} {ty : FieldType} {E : (Nat → Prop) → State → Prop} (C : KCE E G D cc own Ts rm nl (some ty) (some (.int x)) ws) (hn : narrow ty (.int x) = .int x) (hdg : decode cc pc = .ok (.ireturn, 1)) : JW G D pc lv [.int x] ws := by
  obtain ⟨p, l, e, R, s, m, args, below, meth, c, A, nL, Q, nc, ns⟩ := G
  obtain ⟨hx, hb, hml, hnl, hown, hts, hK, hA, hR, hnc, hns, hr, hlocks, hQ, hn0, hs0, hE⟩ := C
  subst hQ
  exact fun H locs ls hP hD hS hl => W.zret hx hb hr hn (fun t ht hW => ⟨⟨rfl, by rw [ht]; exact hP, va_K.moved hW.alike hK, hD⟩, hS.F ht⟩) hS.2.2 hdg hlocks
theorem j_scallV {y : MethodName} {wds : List Cond} {cc2 : ByteArray} {nl2 n idx : Nat} {rt2 : Option FieldType} {rm2 : Room} {w : Nat} {v : Option Value} (As st : List Value) (stk st2 : List Value) (C : KCE (jS aK aV) G D cc own Ts rm nl rt v0 w0) (hM : ∀ l, MWE (jS aK aV) l y wds rm2 D (.ref (aK w) :: As) [] v []) (K : CK y wds cc2 nl2 rt2 n) (hG : GoodIn Ts (wsV own idx RJ0 y wds)) (hroom : rm2.cells = 0 ∧ rm2.slots = 0) (hR : rm2.frames + 1 ≤ rm.frames ∧ 8 + (nl2 + 11) + rm2.locals ≤ rm.locals) (hn : As.length = n) (hw : w < 5) (hcl : y.cls = RJ0) (hstk : stk = As.reverse ++ .ref (aK w) :: st) (hst2 : v.toList ++ st = st2) (hcat : (st.map fun v => v.category).sum ≤ 8) (hdg : decode cc pc = .ok (.invokevirtual idx, 3)) (kk : JW G D (pc + 3) lv st2 ws) : JW G D pc lv stk ws := by
  obtain ⟨p, l, e, R, s, m, args, below, meth, c, A, nL, Q, nc, ns⟩ := G
  obtain ⟨hx, hb, hml, hnl, hown, hts, hK, hA, hRm, hnc, hns, hr, hlocks, hQ, hn0, hs0, hE⟩ := C
  subst hRm
  subst hstk
  subst hst2
  obtain ⟨w', hw'⟩ : ∃ w', wds = Cond.code y cc2 nl2 rt2 :: w' := by
    cases wds with
    | nil => cases K.1
    | cons a t => exact ⟨t, by rw [Option.some.inj K.1]⟩
  intro H locs ls hP hD hS hl
  have hFc : ∀ q, va_A [] H.size q → A q := va_free (wc := []) hD hS hA [] rfl
  have hPc : va_P D vwCl [] H := fun k q h => by simp at h
  have hDc : va_D (fun _ => True) [] := ⟨fun i j p q h => by simp at h, fun k q h => by simp at h⟩
  have run := va_runV (l := l) (e := e) (below := below) (meth := meth) (H := H) (locs := locs) (cells := nc) (slots := ns) (As := As) (rest := st) (b := aK w) (C := RJ0) (g := F0 m pc ls (As.reverse ++ .ref (aK w) :: st)) ⟨hx, hb, hml, hown, hts⟩ (hM l H.size) (cwV n hts hG hw' hroom.1 hroom.2 ⟨hcl, K.2⟩ hR) ⟨j_blind jS_bl, vk_recv hE.1 hw hS, fun U hU hW => ⟨rfl, by rw [hU], by rw [hU]; exact hPc, va_K.moved hW.alike hK, hDc, jS_ET A _ s U hE hFc hW (by rw [hU]; exact hS.1) (fun a h1 h2 => by rw [hU]; exact hS.2.1 a h1 h2)⟩⟩ rfl hn hl.1 rfl (lv_room hcat) hdg ⟨hnc, hns⟩
  intro T0 hT X
  obtain ⟨v2, st₀, t, T', L, h0, X', hL, e1, e2, ⟨⟨hv, hP1, hK1, hD1⟩, hz, hkq⟩, stp⟩ := run T0 hT X
  have hvv : v2 = v := by injection hv
  subst hvv
  rw [h0] at hz hkq
  have hkq2 : ∀ q : Nat, q < H.size → T'.heap[q]? = H[q]? := fun q hq => by
    rw [e1]
    exact hkq q hq (fun hA => by
      rcases hA with ⟨k2, e, hA⟩ | hA
      · simp at hA
      · omega)
  have hP2 : va_P D vwCl ws T'.heap := fun k q hq => (hP k q hq).kept (hkq2 q.1 (hP k q hq).lt)
  have hS2 : va_S A s.heap T'.heap (locs ++ L) := ⟨Nat.le_trans hS.1 (by rw [e1]; exact hz), fun q h1 h2 => by rw [hkq2 q (Nat.lt_of_lt_of_le h1 hS.1)]; exact hS.2.1 q h1 h2, fun q hq => by
      rcases List.mem_append.mp hq with h | h
      · exact hS.2.2 q h
      · exact hFc _ (hL q h)⟩
  obtain ⟨t2, a1, b1⟩ := kk T'.heap (locs ++ L) ls hP2 hD hS2 hl T' rfl X'
  exact ⟨t2, stp t2 a1, b1⟩
theorem j_scallS {y : MethodName} {wds : List Cond} {cc2 : ByteArray} {nl2 n idx : Nat} {rt2 : Option FieldType} {rm2 : Room} {v : Option Value} (As st : List Value) (stk st2 : List Value) (C : KCE (jS aK aV) G D cc own Ts rm nl rt v0 w0) (hM : ∀ l, MWE (jS aK aV) l y wds rm2 D (As) [] v []) (K : CK y wds cc2 nl2 rt2 n) (hG : GoodIn Ts (va_wsS own idx y wds)) (hroom : rm2.cells = 0 ∧ rm2.slots = 0) (hR : rm2.frames + 1 ≤ rm.frames ∧ 8 + (nl2 + 11) + rm2.locals ≤ rm.locals) (hn : As.length = n) (hstk : stk = As.reverse ++ st) (hst2 : v.toList ++ st = st2) (hcat : (st.map fun v => v.category).sum ≤ 8) (hdg : decode cc pc = .ok (.invokestatic idx, 3)) (kk : JW G D (pc + 3) lv st2 ws) : JW G D pc lv stk ws := by
  obtain ⟨p, l, e, R, s, m, args, below, meth, c, A, nL, Q, nc, ns⟩ := G
  obtain ⟨hx, hb, hml, hnl, hown, hts, hK, hA, hRm, hnc, hns, hr, hlocks, hQ, hn0, hs0, hE⟩ := C
  subst hRm
  subst hstk
  subst hst2
  obtain ⟨w', hw'⟩ : ∃ w', wds = Cond.code y cc2 nl2 rt2 :: w' := by
    cases wds with
    | nil => cases K.1
    | cons a t => exact ⟨t, by rw [Option.some.inj K.1]⟩
  intro H locs ls hP hD hS hl
  have hFc : ∀ q, va_A [] H.size q → A q := va_free (wc := []) hD hS hA [] rfl
  have hPc : va_P D vwCl [] H := fun k q h => by simp at h
  have hDc : va_D (fun _ => True) [] := ⟨fun i j p q h => by simp at h, fun k q h => by simp at h⟩
  have run := va_runS (l := l) (e := e) (below := below) (meth := meth) (H := H) (locs := locs) (cells := nc) (slots := ns) (As := As) (rest := st) (g := F0 m pc ls (As.reverse ++ st)) ⟨hx, hb, hml, hown, hts⟩ (hM l H.size) (va_cwS n hts hG hw' hroom.1 hroom.2 K.2 hR) ⟨j_blind jS_bl, fun U hU hW => ⟨rfl, by rw [hU], by rw [hU]; exact hPc, va_K.moved hW.alike hK, hDc, jS_ET A _ s U hE hFc hW (by rw [hU]; exact hS.1) (fun a h1 h2 => by rw [hU]; exact hS.2.1 a h1 h2)⟩⟩ rfl hn hl.1 rfl (lv_room hcat) hdg ⟨hnc, hns⟩
  intro T0 hT X
  obtain ⟨v2, st₀, t, T', L, h0, X', hL, e1, e2, ⟨⟨hv, hP1, hK1, hD1⟩, hz, hkq⟩, stp⟩ := run T0 hT X
  have hvv : v2 = v := by injection hv
  subst hvv
  rw [h0] at hz hkq
  have hkq2 : ∀ q : Nat, q < H.size → T'.heap[q]? = H[q]? := fun q hq => by
    rw [e1]
    exact hkq q hq (fun hA => by
      rcases hA with ⟨k2, e, hA⟩ | hA
      · simp at hA
      · omega)
  have hP2 : va_P D vwCl ws T'.heap := fun k q hq => (hP k q hq).kept (hkq2 q.1 (hP k q hq).lt)
  have hS2 : va_S A s.heap T'.heap (locs ++ L) := ⟨Nat.le_trans hS.1 (by rw [e1]; exact hz), fun q h1 h2 => by rw [hkq2 q (Nat.lt_of_lt_of_le h1 hS.1)]; exact hS.2.1 q h1 h2, fun q hq => by
      rcases List.mem_append.mp hq with h | h
      · exact hS.2.2 q h
      · exact hFc _ (hL q h)⟩
  obtain ⟨t2, a1, b1⟩ := kk T'.heap (locs ++ L) ls hP2 hD hS2 hl T' rfl X'
  exact ⟨t2, stp t2 a1, b1⟩
end JSTR
theorem lk_J0a : Cond.fieldLink RJ0 1053 "jdk/internal/util/Preconditions" "SIOOBE_FORMATTER" "Ljava/util/function/BiFunction;" ∈ wsJ0_checkIndex_df160 := by decide +kernel
theorem lk_J0b : Cond.fieldLink RJ0 38 "java/lang/String" "COMPACT_STRINGS" "Z" ∈ wsJ0_coder_7d493 ∧ Cond.fieldLink RJ0 15 "java/lang/String" "coder" "B" ∈ wsJ0_coder_7d493 := by decide +kernel
theorem lk_J0c : Cond.fieldLink RJ0 38 "java/lang/String" "COMPACT_STRINGS" "Z" ∈ wsJ0_isLatin1_aae02 ∧ Cond.fieldLink RJ0 15 "java/lang/String" "coder" "B" ∈ wsJ0_isLatin1_aae02 := by decide +kernel
theorem lk_J0d : Cond.fieldLink RJ0 9 "java/lang/String" "value" "[B" ∈ wsJ0_length_8abf5 := by decide +kernel
theorem lk_J0e : Cond.fieldLink RJ0 9 "java/lang/String" "value" "[B" ∈ wsJ0_charAt_5068e := by decide +kernel
theorem k_J3_checkIndex : CK yJ3_checkIndex_8e157 wsJ3_checkIndex_8e157 cJ3_checkIndex_8e157 3 (some .int) 3 := ⟨rfl, by decide +kernel⟩
theorem k_J0_checkIndex : CK yJ0_checkIndex_df160 wsJ0_checkIndex_df160 cJ0_checkIndex_df160 2 none 2 := ⟨rfl, by decide +kernel⟩
theorem k_J1_charAt : CK yJ1_charAt_3b067 wsJ1_charAt_3b067 cJ1_charAt_3b067 2 (some .char) 2 := ⟨rfl, by decide +kernel⟩
theorem k_J0_coder : CK yJ0_coder_7d493 wsJ0_coder_7d493 cJ0_coder_7d493 1 (some .byte) 0 := ⟨rfl, by decide +kernel⟩
theorem k_J0_isLatin1 : CK yJ0_isLatin1_aae02 wsJ0_isLatin1_aae02 cJ0_isLatin1_aae02 1 (some .boolean) 0 := ⟨rfl, by decide +kernel⟩
theorem k_J0_length : CK yJ0_length_8abf5 wsJ0_length_8abf5 cJ0_length_8abf5 1 (some .int) 0 := ⟨rfl, by decide +kernel⟩
theorem k_J0_charAt : CK yJ0_charAt_5068e wsJ0_charAt_5068e cJ0_charAt_5068e 2 (some .char) 1 := ⟨rfl, by decide +kernel⟩

set_option maxHeartbeats 4000000 in
set_option maxRecDepth 100000 in
theorem c_J3_checkIndex (D : va_G) (aK aV : Nat → Nat) (i n : Int32) (v : Value) (hv : v.category = 1) (h0 : ¬ i < 0) (h1 : i < n) : ∀ l, MWE (jS aK aV) l yJ3_checkIndex_8e157 wsJ3_checkIndex_8e157 ({ frames := 0, cells := 0, slots := 0, locals := 0 } : Room) D [.int i, .int n, v] [] (some (.int i)) [] := j_met (cc := cJ3_checkIndex_8e157) (nl := 3) (rt := (some .int)) (own := RJ3) (lv := [(0, .int i), (1, .int n), (2, v)]) (by decide +kernel) rfl rfl rfl (by simp only [lg_sl, List.flatMap_cons, List.flatMap_nil, hv]; exact Nat.le_of_ble_eq_true rfl) (fun G C => by
  refine j_iload_n (pc := 0) C 0 rfl dJ3_checkIndex_8e157_0 ?_
  refine j_if_lt (pc := 1) (a := none) (b := some ()) (o := ()) 9 C (if_neg h0) (by decide) dJ3_checkIndex_8e157_1 (fun hf => by cases hf) (fun _ => ?_)
  refine j_iload_n (pc := 4) C 0 rfl dJ3_checkIndex_8e157_4 ?_
  refine j_iload_n (pc := 5) C 1 rfl dJ3_checkIndex_8e157_5 ?_
  refine j_icmp_lt (pc := 6) (a := some ()) (b := none) (o := ()) 16 C (if_pos h1) (by decide) dJ3_checkIndex_8e157_6 (fun _ => ?_) (fun hf => by cases hf)
  refine j_iload_n (pc := 16) C 0 rfl dJ3_checkIndex_8e157_16 ?_
  exact j_iret (pc := 17) C dJ3_checkIndex_8e157_17)
set_option maxHeartbeats 4000000 in
set_option maxRecDepth 100000 in
theorem c_J0_checkIndex (D : va_G) (aK aV : Nat → Nat) (i n : Int32) (h0 : ¬ i < 0) (h1 : i < n) : ∀ l, MWE (jS aK aV) l yJ0_checkIndex_df160 wsJ0_checkIndex_df160 ({ frames := 1, cells := 0, slots := 0, locals := 22 } : Room) D [.int i, .int n] [] none [] := j_met (cc := cJ0_checkIndex_df160) (nl := 2) (rt := none) (own := RJ0) (lv := [(0, .int i), (1, .int n)]) (by decide +kernel) rfl rfl rfl (Nat.le_of_ble_eq_true rfl) (fun G C => by
  refine j_iload_n (pc := 0) C 0 rfl dJ0_checkIndex_df160_0 ?_
  refine j_iload_n (pc := 1) C 1 rfl dJ0_checkIndex_df160_1 ?_
  refine j_sgf (pc := 2) C lk_J0a dJ0_checkIndex_df160_2 (fun v hv => ?_)
  refine j_scallS (pc := 5) [.int i, .int n, v] [] [v, .int n, .int i] [.int i] C (c_J3_checkIndex D aK aV i n v hv h0 h1) k_J3_checkIndex gJ0_checkIndex_df160_J3_checkIndex_8e157 ⟨rfl, rfl⟩ ⟨Nat.le_of_ble_eq_true rfl, Nat.le_of_ble_eq_true rfl⟩ rfl rfl rfl (Nat.le_of_ble_eq_true rfl) dJ0_checkIndex_df160_5 ?_
  refine j_pop (pc := 8) C rfl dJ0_checkIndex_df160_8 ?_
  exact j_vret (pc := 9) C dJ0_checkIndex_df160_9)
theorem lenS_lt {w : Nat} (hw : w < 5) : lenS w < 6 := by
  match w, hw with
  | 0, _ => decide
  | 1, _ => decide
  | 2, _ => decide
  | 3, _ => decide
  | 4, _ => decide
theorem chS_c {w : Nat} (hw : w < 5) {k : Nat} (hk : k < lenS w) : ((chS w k &&& 255).toUInt32 % 65536).toInt32 = chS w k ∧ narrow .char (.int (chS w k)) = .int (chS w k) := by
  have h : ∀ w, w < 5 → ∀ k, k < 6 → ((chS w k &&& 255).toUInt32 % 65536).toInt32 = chS w k ∧ narrow .char (.int (chS w k)) = .int (chS w k) := by decide +kernel
  exact h w hw k (Nat.lt_trans hk (lenS_lt hw))
set_option maxHeartbeats 4000000 in
set_option maxRecDepth 100000 in
theorem c_J1_charAt (D : va_G) (aK aV : Nat → Nat) (w : Nat) (hw : w < 5) (i : Int32) (hi : vp_in i (lenS w)) : ∀ l, MWE (jS aK aV) l yJ1_charAt_3b067 wsJ1_charAt_3b067 ({ frames := 2, cells := 0, slots := 0, locals := 43 } : Room) D [.ref (aV w), .int i] [] (some (.int (chS w i.toNatClampNeg))) [] := j_met (cc := cJ1_charAt_3b067) (nl := 2) (rt := (some .char)) (own := RJ1) (lv := [(0, .ref (aV w)), (1, .int i)]) (by decide +kernel) rfl rfl rfl (Nat.le_of_ble_eq_true rfl) (fun G C => by
  have hl := lenS_lt hw
  obtain ⟨j, hj, rfl⟩ := vp_in_of hi (by omega)
  refine j_iload_n (pc := 0) C 1 rfl dJ1_charAt_3b067_0 ?_
  refine j_aload_n (pc := 1) C 0 rfl dJ1_charAt_3b067_1 ?_
  refine j_sal (pc := 2) C hw dJ1_charAt_3b067_2 ?_
  refine j_scallS (pc := 3) [.int (nI j), .int (nI (lenS w))] [] [.int (nI (lenS w)), .int (nI j)] [] C (c_J0_checkIndex D aK aV (nI j) (nI (lenS w)) (nI_pos (by omega)) (nI_lt hj (by omega))) k_J0_checkIndex gJ1_charAt_3b067_J0_checkIndex_df160 ⟨rfl, rfl⟩ ⟨Nat.le_of_ble_eq_true rfl, Nat.le_of_ble_eq_true rfl⟩ rfl rfl rfl (Nat.le_of_ble_eq_true rfl) dJ1_charAt_3b067_3 ?_
  refine j_aload_n (pc := 6) C 0 rfl dJ1_charAt_3b067_6 ?_
  refine j_iload_n (pc := 7) C 1 rfl dJ1_charAt_3b067_7 ?_
  refine j_sbl (pc := 8) C hw hi dJ1_charAt_3b067_8 ?_
  refine j_sipush (pc := 9) 255 C (by decide) dJ1_charAt_3b067_9 ?_
  refine j_iand (pc := 12) C dJ1_charAt_3b067_12 ?_
  refine j_i2c (pc := 13) (chS w (nI j).toNatClampNeg) C (chS_c hw (by rw [nI_clamp (by omega)]; exact hj)).1 dJ1_charAt_3b067_13 ?_
  exact j_nret (pc := 14) C (chS_c hw (by rw [nI_clamp (by omega)]; exact hj)).2 dJ1_charAt_3b067_14)
set_option maxHeartbeats 4000000 in
set_option maxRecDepth 100000 in
theorem c_J0_coder (D : va_G) (aK aV : Nat → Nat) (w : Nat) (hw : w < 5) : ∀ l, MWE (jS aK aV) l yJ0_coder_7d493 wsJ0_coder_7d493 ({ frames := 0, cells := 0, slots := 0, locals := 0 } : Room) D [.ref (aK w)] [] (some (.int 0)) [] := j_met (cc := cJ0_coder_7d493) (nl := 1) (rt := (some .byte)) (own := RJ0) (lv := [(0, .ref (aK w))]) (by decide +kernel) rfl rfl rfl (Nat.le_of_ble_eq_true rfl) (fun G C => by
  refine j_sgs (pc := 0) C lk_J0b.1 dJ0_coder_7d493_0 ?_
  refine j_if_eq (pc := 3) (a := none) (b := some ()) (o := ()) 13 C (if_neg (by decide)) (by decide) dJ0_coder_7d493_3 (fun hf => by cases hf) (fun _ => ?_)
  refine j_aload_n (pc := 6) C 0 rfl dJ0_coder_7d493_6 ?_
  refine j_scod (pc := 7) C hw lk_J0b.2 dJ0_coder_7d493_7 ?_
  refine j_goto (pc := 10) 14 C (by decide) dJ0_coder_7d493_10 ?_
  exact j_nret (pc := 14) C rfl dJ0_coder_7d493_14)
set_option maxHeartbeats 4000000 in
set_option maxRecDepth 100000 in
theorem c_J0_isLatin1 (D : va_G) (aK aV : Nat → Nat) (w : Nat) (hw : w < 5) : ∀ l, MWE (jS aK aV) l yJ0_isLatin1_aae02 wsJ0_isLatin1_aae02 ({ frames := 0, cells := 0, slots := 0, locals := 0 } : Room) D [.ref (aK w)] [] (some (.int 1)) [] := j_met (cc := cJ0_isLatin1_aae02) (nl := 1) (rt := (some .boolean)) (own := RJ0) (lv := [(0, .ref (aK w))]) (by decide +kernel) rfl rfl rfl (Nat.le_of_ble_eq_true rfl) (fun G C => by
  refine j_sgs (pc := 0) C lk_J0c.1 dJ0_isLatin1_aae02_0 ?_
  refine j_if_eq (pc := 3) (a := none) (b := some ()) (o := ()) 17 C (if_neg (by decide)) (by decide) dJ0_isLatin1_aae02_3 (fun hf => by cases hf) (fun _ => ?_)
  refine j_aload_n (pc := 6) C 0 rfl dJ0_isLatin1_aae02_6 ?_
  refine j_scod (pc := 7) C hw lk_J0c.2 dJ0_isLatin1_aae02_7 ?_
  refine j_if_ne (pc := 10) (a := none) (b := some ()) (o := ()) 17 C (if_pos rfl) (by decide) dJ0_isLatin1_aae02_10 (fun hf => by cases hf) (fun _ => ?_)
  refine j_iconst (pc := 13) 1 C (by decide) dJ0_isLatin1_aae02_13 ?_
  refine j_goto (pc := 14) 18 C (by decide) dJ0_isLatin1_aae02_14 ?_
  exact j_nret (pc := 18) C rfl dJ0_isLatin1_aae02_18)
set_option maxHeartbeats 4000000 in
set_option maxRecDepth 100000 in
theorem c_J0_length (D : va_G) (aK aV : Nat → Nat) (w : Nat) (hw : w < 5) : ∀ l, MWE (jS aK aV) l yJ0_length_8abf5 wsJ0_length_8abf5 ({ frames := 1, cells := 0, slots := 0, locals := 20 } : Room) D [.ref (aK w)] [] (some (.int (nI (lenS w)))) [] := j_met (cc := cJ0_length_8abf5) (nl := 1) (rt := (some .int)) (own := RJ0) (lv := [(0, .ref (aK w))]) (by decide +kernel) rfl rfl rfl (Nat.le_of_ble_eq_true rfl) (fun G C => by
  refine j_aload_n (pc := 0) C 0 rfl dJ0_length_8abf5_0 ?_
  refine j_sval (pc := 1) C hw lk_J0d dJ0_length_8abf5_1 ?_
  refine j_sal (pc := 4) C hw dJ0_length_8abf5_4 ?_
  refine j_aload_n (pc := 5) C 0 rfl dJ0_length_8abf5_5 ?_
  refine j_scallV (pc := 6) [] [.int (nI (lenS w))] [.ref (aK w), .int (nI (lenS w))] [.int 0, .int (nI (lenS w))] C (c_J0_coder D aK aV w hw) k_J0_coder gJ0_length_8abf5_J0_coder_7d493 ⟨rfl, rfl⟩ ⟨Nat.le_of_ble_eq_true rfl, Nat.le_of_ble_eq_true rfl⟩ rfl hw rfl rfl rfl (Nat.le_of_ble_eq_true rfl) dJ0_length_8abf5_6 ?_
  refine j_ishr (pc := 9) C dJ0_length_8abf5_9 ?_
  rw [sb_shr0]
  exact j_iret (pc := 10) C dJ0_length_8abf5_10)
set_option maxHeartbeats 4000000 in
set_option maxRecDepth 100000 in
theorem c_J0_charAt (D : va_G) (aK aV : Nat → Nat) (w : Nat) (hw : w < 5) (i : Int32) (hi : vp_in i (lenS w)) : ∀ l, MWE (jS aK aV) l yJ0_charAt_5068e wsJ0_charAt_5068e ({ frames := 3, cells := 0, slots := 0, locals := 64 } : Room) D [.ref (aK w), .int i] [] (some (.int (chS w i.toNatClampNeg))) [] := j_met (cc := cJ0_charAt_5068e) (nl := 2) (rt := (some .char)) (own := RJ0) (lv := [(0, .ref (aK w)), (1, .int i)]) (by decide +kernel) rfl rfl rfl (Nat.le_of_ble_eq_true rfl) (fun G C => by
  refine j_aload_n (pc := 0) C 0 rfl dJ0_charAt_5068e_0 ?_
  refine j_scallV (pc := 1) [] [] [.ref (aK w)] [.int 1] C (c_J0_isLatin1 D aK aV w hw) k_J0_isLatin1 gJ0_charAt_5068e_J0_isLatin1_aae02 ⟨rfl, rfl⟩ ⟨Nat.le_of_ble_eq_true rfl, Nat.le_of_ble_eq_true rfl⟩ rfl hw rfl rfl rfl (Nat.le_of_ble_eq_true rfl) dJ0_charAt_5068e_1 ?_
  refine j_if_eq (pc := 4) (a := none) (b := some ()) (o := ()) 16 C (if_neg (by decide)) (by decide) dJ0_charAt_5068e_4 (fun hf => by cases hf) (fun _ => ?_)
  refine j_aload_n (pc := 7) C 0 rfl dJ0_charAt_5068e_7 ?_
  refine j_sval (pc := 8) C hw lk_J0e dJ0_charAt_5068e_8 ?_
  refine j_iload_n (pc := 11) C 1 rfl dJ0_charAt_5068e_11 ?_
  refine j_scallS (pc := 12) [.ref (aV w), .int i] [] [.int i, .ref (aV w)] [.int (chS w i.toNatClampNeg)] C (c_J1_charAt D aK aV w hw i hi) k_J1_charAt gJ0_charAt_5068e_J1_charAt_3b067 ⟨rfl, rfl⟩ ⟨Nat.le_of_ble_eq_true rfl, Nat.le_of_ble_eq_true rfl⟩ rfl rfl rfl (Nat.le_of_ble_eq_true rfl) dJ0_charAt_5068e_12 ?_
  exact j_nret (pc := 15) C (chS_c hw (in_lt hi)).2 dJ0_charAt_5068e_15)
section JSTR2
variable {aK aV : Nat → Nat} {G : jX} {D : va_G} {cc : ByteArray} {own : String} {Ts : List Cond} {rm : Room} {nl : Nat} {rt : Option FieldType} {v0 : Option Value} {w0 : va_W} {pc : Nat} {lv : List (Nat × Value)} {st : List Value} {ws : va_W}
theorem j_slen {w idx : Nat} (C : KCE (jS aK aV) G D cc own Ts rm nl rt v0 w0) (hw : w < 5) (hG : GoodIn Ts (wsV own idx RJ0 yJ0_length_8abf5 wsJ0_length_8abf5)) (hf : 2 ≤ rm.frames) (hlo : 40 ≤ rm.locals) (hcat : (st.map fun v => v.category).sum ≤ 8) (hdg : decode cc pc = .ok (.invokevirtual idx, 3)) (kk : JW G D (pc + 3) lv (.int (nI (lenS w)) :: st) ws) : JW G D pc lv (.ref (aK w) :: st) ws :=
  j_scallV [] st (.ref (aK w) :: st) (.int (nI (lenS w)) :: st) C (c_J0_length D aK aV w hw) k_J0_length hG ⟨rfl, rfl⟩ ⟨hf, hlo⟩ rfl hw rfl rfl rfl hcat hdg kk
theorem j_schar {α : Type} {X : Option α} {o : α} {w idx : Nat} {i : Int32} (C : KCE (jS aK aV) G D cc own Ts rm nl rt v0 w0) (hw : w < 5) (hf : ck i (lenS w) X = some o) (hG : GoodIn Ts (wsV own idx RJ0 yJ0_charAt_5068e wsJ0_charAt_5068e)) (hfr : 4 ≤ rm.frames) (hlo : 85 ≤ rm.locals) (hcat : (st.map fun v => v.category).sum ≤ 8) (hdg : decode cc pc = .ok (.invokevirtual idx, 3)) (kk : X = some o → JW G D (pc + 3) lv (.int (chS w i.toNatClampNeg) :: st) ws) : JW G D pc lv (.int i :: .ref (aK w) :: st) ws :=
  j_scallV [.int i] st (.int i :: .ref (aK w) :: st) (.int (chS w i.toNatClampNeg) :: st) C (c_J0_charAt D aK aV w hw i (ck_some hf).1) k_J0_charAt hG ⟨rfl, rfl⟩ ⟨hfr, hlo⟩ rfl hw rfl rfl rfl hcat hdg (kk (ck_some hf).2)
end JSTR2
