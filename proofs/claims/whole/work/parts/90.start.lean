/-! the law's start -/
section LS
variable {b : Nat} {s : State}
def sk5 (i : Nat) : Nat := [48, 87, 89, 91, 93].getD i 0
def tm5 (i : Nat) : Term := .string RX4 (sk5 i)
theorem st_jS (hts : ∀ w ∈ lw_tbl, w.before #[Value.ref b] s = true) (hg : (Jvm.Cond.and given_1 narrow_1).before #[Value.ref b] s = true) {A : Nat → Prop} (hA : ∀ a : Nat, a < s.heap.size → ¬ A a) : ∃ aK aV : Nat → Nat, jS aK aV A s := by
  have hs := flat_of_before _ hg
  have w1 : ∀ i : Nat, i < 5 → Cond.exactly (tm5 i) "java/lang/String" ∈ flatC (Jvm.Cond.and given_1 narrow_1) := by decide +kernel
  have w2 : ∀ i : Nat, i < 5 → Cond.eq (.field (tm5 i) "java/lang/String" "coder" "B") (.int 0) ∈ flatC (Jvm.Cond.and given_1 narrow_1) := by decide +kernel
  have w3 : ∀ i : Nat, i < 5 → Cond.arrayOf (.field (tm5 i) "java/lang/String" "value" "[B") .byte ∈ flatC (Jvm.Cond.and given_1 narrow_1) := by decide +kernel
  have w4 : ∀ i : Nat, i < 5 → Cond.eq (.length (.field (tm5 i) "java/lang/String" "value" "[B")) (.int (Int32.ofNat (lenJ.getD i 0))) ∈ flatC (Jvm.Cond.and given_1 narrow_1) := by decide +kernel
  have w5 : ∀ i : Nat, i < 5 → ∀ j : Nat, j < lenJ.getD i 0 → Cond.eq (.elem (.field (tm5 i) "java/lang/String" "value" "[B") (.int (Int32.ofNat j))) (.int ((bytJ.getD i []).getD j 0)) ∈ flatC (Jvm.Cond.and given_1 narrow_1) := by decide +kernel
  have w6 : ∀ i : Nat, i < 5 → ∀ j : Nat, j < 5 → i ≠ j → Cond.not (Cond.eq (tm5 i) (tm5 j)) ∈ flatC (Jvm.Cond.and given_1 narrow_1) ∨ Cond.not (Cond.eq (tm5 j) (tm5 i)) ∈ flatC (Jvm.Cond.and given_1 narrow_1) := by decide +kernel
  obtain ⟨aK, aV, hS, he⟩ := vk_Sof (args := #[Value.ref b]) (s := s) (N := 5) (tm := tm5) (len := lenJ) (byt := bytJ) (A := A) (by decide) (fun i hi => hs _ (w1 i hi)) (fun i hi => hs _ (w2 i hi)) (fun i hi => hs _ (w3 i hi)) (fun i hi => hs _ (w4 i hi)) (fun i hi j hj => hs _ (w5 i hi j hj)) (fun i j hi hj hij => (w6 i hi j hj hij).imp (hs _) (hs _)) hA
  have z1 : (Cond.eq (.static "java/lang/String" "COMPACT_STRINGS" "Z") (.int 1)).before #[Value.ref b] s = true := hs _ (by decide +kernel)
  have z2 : (Cond.isRef (.static "jdk/internal/util/Preconditions" "SIOOBE_FORMATTER" "Ljava/util/function/BiFunction;")).before #[Value.ref b] s = true := hs _ (by decide +kernel)
  exact ⟨aK, aV, hS, ⟨vk_R.of (hts _ (by decide +kernel)) (he 0 (by decide)), vk_R.of (hts _ (by decide +kernel)) (he 1 (by decide)), vk_R.of (hts _ (by decide +kernel)) (he 2 (by decide)), vk_R.of (hts _ (by decide +kernel)) (he 3 (by decide)), vk_R.of (hts _ (by decide +kernel)) (he 4 (by decide))⟩, va_Zof (hts _ (by decide +kernel)) (hts _ (by decide +kernel)) (va_eqi z1) hA, va_Zqof (hts _ (by decide +kernel)) (hts _ (by decide +kernel)) z2 hA⟩
theorem st_nE (hts : ∀ w ∈ lw_tbl, w.before #[Value.ref b] s = true) : nE s :=
  ⟨hts (.methodLinkNest RX5 9 yX4_init RX5) (by decide +kernel), hts (.methodLinkNest RX5 18 yX1_init RX5) (by decide +kernel), hts (.methodLinkNest RX5 31 yX2_init RX5) (by decide +kernel), hts (.methodLinkNest RX5 57 yX0_init RX5) (by decide +kernel), hts (.methodLinkNest RX5 58 yX3_init RX5) (by decide +kernel), hts (.methodLinkNest RX0 9 yX1_init RX5) (by decide +kernel), hts (.methodLinkNest RX0 18 yX2_init RX5) (by decide +kernel), va_AO.of (hts (.arrayOver (.object RX0)) (by decide +kernel)), va_AO.of (hts (.arrayOver (.object RX3)) (by decide +kernel)), hts (.arrayOver (.array .int)) (by decide +kernel)⟩
theorem st_A {t : FieldType} (ht : ∀ C, t ≠ .object C) (h : (Cond.arrayClass t).before #[Value.ref b] s = true) : ∃ c : ClassId, ArrOfT s c t ∧ va_RA s c t := by
  obtain ⟨c, k, comp, h1, h2, h3⟩ := Cond.arrayClass_spec h
  refine ⟨c, fun n z => ⟨fun k h => (by cases h), k, h2, comp, h3⟩, ?_⟩
  cases t with
  | object C => exact absurd rfl (ht C)
  | _ => exact h1
theorem st_O {n : String} (h : va_AO n s) : ∃ c : ClassId, ArrOfT s c (.object n) ∧ va_RA s c (.object n) := by
  obtain ⟨comp, c, k, h1, h2, h3, h4, h5⟩ := Cond.arrayOver_spec h
  exact ⟨c, fun n z => ⟨fun k h => (by cases h), k, h3, comp, h4⟩, k, comp, h3, h4, h1, h5⟩
theorem st_I (h : AOA s) : ∃ c : ClassId, ArrOfT s c (.array .int) ∧ va_RA s c (.array .int) := by
  rw [AOA_iff] at h
  cases hc : s.vm.findClass FieldType.int.array.toString with
  | none => rw [hc] at h; cases h
  | some comp =>
    rw [hc, Option.bind_some] at h
    cases hc2 : aoI s.vm comp with
    | none => rw [hc2] at h; cases h
    | some c =>
      rw [hc2, Option.bind_some] at h
      unfold aoV at h
      cases hk : s.vm.classes[c]? with
      | none => rw [hk] at h; cases h
      | some k =>
        rw [hk] at h
        simp only [Option.map_some, Option.some.injEq] at h
        cases hkd : k.kind with
        | array cm ty =>
          rw [hkd] at h
          simp only [Bool.and_eq_true, decide_eq_true_eq] at h
          obtain ⟨e1, e2⟩ := h
          subst e1
          exact ⟨c, fun n z => ⟨fun k h => (by cases h), k, hk, cm, hkd⟩, e2⟩
        | _ => rw [hkd] at h; cases h
theorem st_K (hts : ∀ w ∈ lw_tbl, w.before #[Value.ref b] s = true) : ∃ D : va_G, va_K D vwCl (jT D) s := by
  have hn := st_nE hts
  obtain ⟨c0, i0, k0⟩ := u_known (C := RX0) (T := TX0) (N := 3) (n := 3) hts inT_wsX00 (hts _ (by decide +kernel))
  obtain ⟨c1, i1, k1⟩ := u_known (C := RX1) (T := TX1) (N := 12) (n := 12) hts inT_wsX10 (hts _ (by decide +kernel))
  obtain ⟨c2, i2, k2⟩ := u_known (C := RX2) (T := TX2) (N := 4) (n := 4) hts inT_wsX20 (hts _ (by decide +kernel))
  obtain ⟨c3, i3, k3⟩ := u_known (C := RX3) (T := TX3) (N := 4) (n := 4) hts inT_wsX30 (hts _ (by decide +kernel))
  obtain ⟨c4, i4, k4⟩ := u_known (C := RX4) (T := TX4) (N := 8) (n := 8) hts inT_wsX40 (hts _ (by decide +kernel))
  obtain ⟨c5, i5, k5⟩ := u_known (C := RX5) (T := TX5) (N := 9) (n := 9) hts inT_wsX50 (hts _ (by decide +kernel))
  obtain ⟨c6, i6, k6⟩ := u_known (C := RX6) (T := TX6) (N := 30) (n := 30) hts inT_wsX60 (hts _ (by decide +kernel))
  obtain ⟨c7, a7, r7⟩ := st_A (t := .int) (fun _ h => by cases h) (hts _ (by decide +kernel))
  obtain ⟨c8, a8, r8⟩ := st_A (t := .boolean) (fun _ h => by cases h) (hts _ (by decide +kernel))
  obtain ⟨c9, a9, r9⟩ := st_O hn.2.2.2.2.2.2.2.1
  obtain ⟨c10, a10, r10⟩ := st_O hn.2.2.2.2.2.2.2.2.1
  obtain ⟨c11, a11, r11⟩ := st_I hn.2.2.2.2.2.2.2.2.2
  refine ⟨(fun k => [c0, c1, c2, c3, c4, c5, c6, c7, c8, c9, c10, c11].getD k c0, fun k => [i0, i1, i2, i3, i4, i5, i6].getD k i0), fun c q hq => ?_, fun k q hq => ?_⟩
  · match c, hq with
    | 0, hq => cases hq; exact k0
    | 1, hq => cases hq; exact k1
    | 2, hq => cases hq; exact k2
    | 3, hq => cases hq; exact k3
    | 4, hq => cases hq; exact k4
    | 5, hq => cases hq; exact k5
    | 6, hq => cases hq; exact k6
    | c + 7, hq => cases hq
  · match k, hq with
    | 0, hq => cases hq; exact ⟨a7, r7⟩
    | 1, hq => cases hq; exact ⟨a8, r8⟩
    | 2, hq => cases hq; exact ⟨a9, r9⟩
    | 3, hq => cases hq; exact ⟨a10, r10⟩
    | 4, hq => cases hq; exact ⟨a11, r11⟩
    | k + 5, hq => cases hq
end LS
theorem l_init_inv {m : Nat → Int32} (hm : ∀ k, k < 61 → m k = 0) (kd rm ch lk pl sh sc sv : Nat → Int32) : MR 0 0 0 kd rm ch lk pl m ∧ CReal 0 0 0 m ∧ SR 0 0 sh sc sv m := by
  have h := DR_0 (kd := kd) (rm := rm) (ch := ch) (lk := lk) (pl := pl) hm
  obtain ⟨h1, h2, h3, h4, h5⟩ := h
  exact ⟨h1, ⟨h2.symm, h3.symm, h4.symm, by decide, by decide, by decide, by decide, by decide, by decide⟩, by omega, h5, fun i h => absurd h (by omega)⟩
theorem lwm_c5 : Cond.classLink RL 7 RX5 ∈ wsL_law := by decide +kernel
theorem lwm_c6 : Cond.classLink RL 10 RX6 ∈ wsL_law := by decide +kernel
theorem lwm_i5 : Cond.instantiable RX5 9 ∈ wsL_law := by decide +kernel
theorem lwm_i6 : Cond.instantiable RX6 30 ∈ wsL_law := by decide +kernel
theorem lwm_n5 : Cond.initialized RX5 ∈ wsL_law := by decide +kernel
theorem lwm_n6 : Cond.initialized RX6 ∈ wsL_law := by decide +kernel
theorem lwm_m5 : Cond.methodLink RL 9 yX5_init ∈ wsL_law := by decide +kernel
theorem lwm_m6 : Cond.methodLink RL 12 yX6_init ∈ wsL_law := by decide +kernel
theorem lwm_s5 : Cond.instanceMethod yX5_init ∈ wsL_law := by decide +kernel
theorem lwm_s6 : Cond.instanceMethod yX6_init ∈ wsL_law := by decide +kernel
theorem lwm_w5 : ∀ w ∈ wsX50, w ∈ wsL_law := by decide +kernel
theorem lwm_w6 : ∀ w ∈ wsX60, w ∈ wsL_law := by decide +kernel
set_option maxHeartbeats 4000000 in
set_option maxRecDepth 100000 in
theorem l_start {b L : Nat} {xs : Nat → Int32} {aK aV : Nat → Nat} {G : jX} {D : va_G} (C : KQ (lawZ b L xs aK aV) (jR G 0 0) D cL_law RL wsL_law room_1 4) (hL : L ≤ 2560) : JW (jR G 0 0) D 0 [(0, .ref b)] [] [] := by
  refine jn_new (ci := 5) C lwm_w5 tyX5 tyX5_ok lwm_c5 lwm_i5 lwm_n5 rfl [.null, .null, .null, .null, .null, .null, .null, .null, .int 0] df_X5 (Nat.le_of_ble_eq_true rfl) (Nat.le_of_ble_eq_true rfl) dL_law_0 (fun x => ?_)
  have C := KQ_re (lawZ_ne _ _ _ _ _) C (nc' := 1) (ns' := 9) (Nat.le_of_ble_eq_true rfl) (Nat.le_of_ble_eq_true rfl)
  change JW (jR G 1 9) _ _ _ _ [(x, .inr (5, [.null, .null, .null, .null, .null, .null, .null, .null, .int 0]))]
  refine j_dup C rfl dL_law_3 ?_
  refine jn_callI [0] [] (lawZ_ne _ _ _ _ _) C (n_X5_init D x) k_X5_init rfl gL_law_X5_init lwm_m5 lwm_n5 lwm_s5 ⟨rfl, rfl⟩ ⟨Nat.le_of_ble_eq_true rfl, Nat.le_of_ble_eq_true rfl⟩ (Nat.le_of_ble_eq_true rfl) (wc := [(x, .inr (5, [.null, .null, .null, .null, .null, .null, .null, .null, .int 0]))]) (wr := []) rfl rfl (by decide) (by decide) (by decide) (Nat.le_of_ble_eq_true rfl) (Nat.le_of_ble_eq_true rfl) dL_law_4 (fun u => ?_)
  have C := KQ_re (lawZ_ne _ _ _ _ _) C (nc' := 68) (ns' := 1091) (Nat.le_of_ble_eq_true rfl) (Nat.le_of_ble_eq_true rfl)
  change JW (jR G 68 1091) _ _ _ _ (wn_X5 D x u)
  refine j_astore_n 1 [(0, .ref b), (1, .ref x)] [1, 0] C rfl (by decide) rfl dL_law_7 ?_
  refine jn_new (ci := 6) C lwm_w6 tyX6 tyX6_ok lwm_c6 lwm_i6 lwm_n6 rfl [.null, .null, .null, .null, .int 0, .null, .int 0, .int 0, .int 0, .int 0, .int 0, .int 0, .int 0, .int 0, .int 0, .int 0, .int 0, .int 0, .int 0, .int 0, .long 0, .long 0, .long 0, .null, .null, .null, .null, .null, .int 0, .null] df_X6 (Nat.le_of_ble_eq_true rfl) (Nat.le_of_ble_eq_true rfl) dL_law_8 (fun y => ?_)
  have C := KQ_re (lawZ_ne _ _ _ _ _) C (nc' := 69) (ns' := 1121) (Nat.le_of_ble_eq_true rfl) (Nat.le_of_ble_eq_true rfl)
  change JW (jR G 69 1121) _ _ _ _ (wn_X5 D x u ++ [(y, .inr (6, [.null, .null, .null, .null, .int 0, .null, .int 0, .int 0, .int 0, .int 0, .int 0, .int 0, .int 0, .int 0, .int 0, .int 0, .int 0, .int 0, .int 0, .int 0, .long 0, .long 0, .long 0, .null, .null, .null, .null, .null, .int 0, .null]))])
  refine j_dup C rfl dL_law_11 ?_
  refine jn_callI [68] [0, 1, 2, 3, 4, 5, 6, 7, 8, 9, 10, 11, 12, 13, 14, 15, 16, 17, 18, 19, 20, 21, 22, 23, 24, 25, 26, 27, 28, 29, 30, 31, 32, 33, 34, 35, 36, 37, 38, 39, 40, 41, 42, 43, 44, 45, 46, 47, 48, 49, 50, 51, 52, 53, 54, 55, 56, 57, 58, 59, 60, 61, 62, 63, 64, 65, 66, 67] (lawZ_ne _ _ _ _ _) C (n_X6_init D y) k_X6_init rfl gL_law_X6_init lwm_m6 lwm_n6 lwm_s6 ⟨rfl, rfl⟩ ⟨Nat.le_of_ble_eq_true rfl, Nat.le_of_ble_eq_true rfl⟩ (Nat.le_of_ble_eq_true rfl) (wc := [(y, .inr (6, [.null, .null, .null, .null, .int 0, .null, .int 0, .int 0, .int 0, .int 0, .int 0, .int 0, .int 0, .int 0, .int 0, .int 0, .int 0, .int 0, .int 0, .int 0, .long 0, .long 0, .long 0, .null, .null, .null, .null, .null, .int 0, .null]))]) (wr := wn_X5 D x u) rfl rfl (by decide) (by decide +kernel) (by decide +kernel) (Nat.le_of_ble_eq_true rfl) (Nat.le_of_ble_eq_true rfl) dL_law_12 (fun v => ?_)
  have C := KQ_re (lawZ_ne _ _ _ _ _) C (nc' := 80) (ns' := 2432) (Nat.le_of_ble_eq_true rfl) (Nat.le_of_ble_eq_true rfl)
  change JW (jR G 80 2432) _ _ _ _ (wn_X5 D x u ++ wn_X6 D y v)
  refine j_astore_n 2 [(0, .ref b), (1, .ref x), (2, .ref y)] [1, 2, 0] C rfl (by decide) rfl dL_law_15 ?_
  refine j_iconst 0 C (by decide) dL_law_16 ?_
  refine j_istore_n 3 [(0, .ref b), (1, .ref x), (2, .ref y), (3, .int 0)] [1, 2, 3, 0] C rfl (by decide) rfl dL_law_17 ?_
  have hE : LE (fun k => ([x, (u 0), (u 1), (u 2), (u 3), (u 4), (u 5), (u 6), (u 7), (u 8), (u 9), (u 10), (u 11), (u 12), (u 13), (u 14), (u 15), (u 16), (u 17), (u 18), (u 19), (u 20), (u 21), (u 22), (u 23), (u 24), (u 25), (u 26), (u 26) + 1, (u 26) + 2, (u 26) + 3, (u 26) + 4, (u 26) + 5, (u 26) + 6, (u 26) + 7, (u 26) + 8, (u 26) + 9, (u 26) + 10, (u 27), (u 28), (u 29), (u 30), (u 31), (u 32), (u 33), (u 34), (u 35), (u 36), (u 37), (u 38), (u 39), (u 40), (u 41), (u 42), (u 43), (u 44), (u 45), (u 46), (u 47), (u 48), (u 49), (u 50), (u 51), (u 52), (u 53), (u 54), (u 55), (u 56), y, (v.1.1 0), (v.1.1 1), (v.1.1 2), (v.1.1 3), (v.1.1 4), (v.1.1 5), (v.1.1 6), (v.1.1 7), (v.1.1 8), (v.1.1 9), (v.1.1 10)] : List Nat).getD k 0) (va_up (va_up (fun _ => none) 0 (some (u 27))) 1 (some (u 38))) (va_up (va_up (va_up (va_up (fun _ => none) 0 (some (u 49))) 1 (some (u 51))) 2 (some (u 53))) 3 (some (u 55))) ((fun i => if i < 10 then some ((u 26) + 1 + i) else none)) := ⟨rfl, rfl, rfl, rfl, rfl, rfl, grid10 (P := fun j => ((fun i => if i < 10 then some ((u 26) + 1 + i) else none)) j = some ((fun k => ([x, (u 0), (u 1), (u 2), (u 3), (u 4), (u 5), (u 6), (u 7), (u 8), (u 9), (u 10), (u 11), (u 12), (u 13), (u 14), (u 15), (u 16), (u 17), (u 18), (u 19), (u 20), (u 21), (u 22), (u 23), (u 24), (u 25), (u 26), (u 26) + 1, (u 26) + 2, (u 26) + 3, (u 26) + 4, (u 26) + 5, (u 26) + 6, (u 26) + 7, (u 26) + 8, (u 26) + 9, (u 26) + 10, (u 27), (u 28), (u 29), (u 30), (u 31), (u 32), (u 33), (u 34), (u 35), (u 36), (u 37), (u 38), (u 39), (u 40), (u 41), (u 42), (u 43), (u 44), (u 45), (u 46), (u 47), (u 48), (u 49), (u 50), (u 51), (u 52), (u 53), (u 54), (u 55), (u 56), y, (v.1.1 0), (v.1.1 1), (v.1.1 2), (v.1.1 3), (v.1.1 4), (v.1.1 5), (v.1.1 6), (v.1.1 7), (v.1.1 8), (v.1.1 9), (v.1.1 10)] : List Nat).getD k 0) (28 + j))) rfl rfl rfl rfl rfl rfl rfl rfl rfl rfl⟩
  obtain ⟨hM, hC, hS⟩ := l_init_inv v.2 (fun _ => 0) (fun _ => 0) (fun _ => 0) (fun _ => 0) (fun _ => 0) (fun _ => 0) (fun _ => 0) (fun _ => 0)
  exact l_loop C hE hL L 0 _ (by omega) (by omega) (fun P H => H 0 0 0 0 0 0 0 0 0 0 (fun _ => 0) 0 0 0 (fun _ => 0) (fun _ => 0) (fun _ => 0) (fun _ => 0) (fun _ => 0) 0 0 0 0 0 0 (-4) (fun _ => 0) (fun _ => 0) (fun _ => 0) (fun _ => 0) (fun _ => 0) 0 0 0 0 0 0 (-4) (fun _ => 0) (fun _ => 0) (fun _ => 0) (fun _ => 0) (fun _ => 0) (fun _ => 0) (fun _ => 0) (fun _ => 0) (fun _ _ => 0) 0 0 0 0 0 0 0 (-4) (fun _ => 0) (fun _ => 0) (fun _ => 0) (fun _ => 0) (fun _ => 0) 0 (fun _ => 0) (fun _ => 0) (fun _ => 0) 0 0 0 0 0 0 0 (-4) (fun _ => 0) (fun _ => 0) (fun _ => 0) (fun _ => 0) (fun _ => 0) 0 (fun _ => 0) (fun _ => 0) (fun _ => 0) 0 0 0 (fun _ => 0) 0 0 0 (fun _ => 0) 0 0 0 (fun _ => 0) 0 0 0 (fun _ => 0) 0 0 0 0 0 0 0 0 0 0 0 0 0 0 0 0 v.1.2.1 (fun _ => 0) (upd (upd (fun _ => 0) 0 0) 1 0) v.1.2.2 (fun _ => 0) (fun _ => 0) (fun _ => 0) (upd (upd (upd (upd (fun _ => 0) 0 (-4)) 1 (-4)) 2 (-4)) 3 (-4)) (fun _ => 0) (fun _ => 0) (fun _ => 0) 0 0 (TR_0 _ _) hM hC hS (Or.inl ⟨rfl, rfl⟩) (Or.inl ⟨rfl, rfl⟩) (Or.inl ⟨rfl, rfl⟩) (Or.inl ⟨rfl, rfl⟩) (Or.inl ⟨rfl, rfl⟩) (Or.inl ⟨rfl, rfl⟩))
theorem whole_start {p : Program} {e : Env} {s : State} {m : MethodId} {below : List Frame} {meth : Method} {c : Code} (l : Launch) (hflags : l.flags = flags0) {b L : Nat} {xs : Nat → Int32} (hL : L ≤ 2560) (C0 : lw_At p s m meth c b L xs) : W p l e room_1 s m #[Value.ref b] below meth c s.heap [] 0 0 (lw_Z below #[Value.ref b] s) (entryFrame m ([Value.ref b] : List Value).toArray 4) := by
  obtain ⟨hx, hb, hr, hml, hown, hts, hX, hbl, hlk, hgv⟩ := C0
  obtain ⟨D, hK⟩ := st_K hts
  obtain ⟨aK, aV, hJ⟩ := st_jS hts hgv (A := fun q => s.heap.size ≤ q) (fun a h => Nat.not_le.mpr h)
  have hl := lv_entry [Value.ref b] (n := 4) (Nat.le_of_ble_eq_true rfl)
  rw [lg_entry_eq]
  exact l_start (G := (p, l, e, room_1, s, m, #[Value.ref b], below, meth, c, (fun q => s.heap.size ≤ q), 4, lw_Z below #[Value.ref b] s, 0, 0)) (D := D) (xs := xs) (aK := aK) (aV := aV) ⟨hx, hb, hml, rfl, hown, fun w hw => hts w (wsL_law_inT w hw), hK, fun q h => h, rfl, Nat.zero_le _, Nat.zero_le _, hr, hlk, rfl, rfl, rfl, hX, hbl, hJ, st_nE hts⟩ hL s.heap [] _ (fun k q h => by simp at h) ⟨fun i j p q h => by simp at h, fun k q h => by simp at h⟩ va_S.rf hl
