theorem g5_t {α : Type} {v L K : Int32} {a b : α} (h : In L.toInt K.toInt v) : (if v < L then a else (if K < v then a else b)) = b := by
  rw [if_neg (fun q => by have := i_lt.mp q; have := h.1; omega), if_neg (fun q => by have := i_lt.mp q; have := h.2; omega)]
theorem g5_f {α : Type} {v L K : Int32} {a b : α} (h : ¬ In L.toInt K.toInt v) : (if v < L then a else (if K < v then a else b)) = a := by
  by_cases c : v < L
  · rw [if_pos c]
  · rw [if_neg c]
    have c' : ¬ v.toInt < L.toInt := fun q => c (i_lt.mpr q)
    rw [if_pos (i_lt.mpr (by unfold In at h; omega))]
theorem op_alter {nc ns hr : Nat} {kd rm ch lk pl mSt : Nat → Int32} (h : MR nc ns hr kd rm ch lk pl mSt) {st wa dn : Int32} (hC : CReal st wa dn mSt) (v1 v2 v3 : Int32) : ∃ r kd' rm' ch' lk' mSt', f_X5_alter v1 v2 v3 (nI nc) kd rm ch lk = some (r, kd', rm', ch', lk') ∧ f_X6_alter v1 v2 v3 mSt = some (r, mSt') ∧ MR nc ns hr kd' rm' ch' lk' pl mSt' ∧ CReal st wa dn mSt' ∧ ∀ k, 42 ≤ k → mSt' k = mSt k := by
  have hc := h.1.1
  have hA := h.2.2.1.1
  have stay : ∀ r : Int32, ∃ r' kd' rm' ch' lk' mSt', some (r, kd, rm, ch, lk) = some (r', kd', rm', ch', lk') ∧ some (r, mSt) = some (r', mSt') ∧ MR nc ns hr kd' rm' ch' lk' pl mSt' ∧ CReal st wa dn mSt' ∧ ∀ k, 42 ≤ k → mSt' k = mSt k := fun r => ⟨r, kd, rm, ch, lk, mSt, rfl, rfl, h, hC, fun _ _ => rfl⟩
  unfold f_X5_alter f_X6_alter
  by_cases c0 : In 0 ((nc : Int) - 1) v1
  · rw [ob1_s (p5_cell_t (by omega) c0), ob1_s (p6_unit_t hA.1 (by omega) c0), i10, i10]
    obtain ⟨j, hj, rfl⟩ := In_cell (by omega) c0
    obtain ⟨e1, e2, e3, e4⟩ := hA.2 j hj
    obtain ⟨w1, w2, w3, w4, w5, w6, w7, w8⟩ := h.1.2 j hj
    obtain ⟨a1, a2, a3⟩ := RA_upk hA hc hj v3
    obtain ⟨b1, b2, b3⟩ := WR_upk h.1 hj v3
    unfold f_X5_alter_36 f_X5_alter_57 f_X6_alter_32 f_X6_alter_64 f_X6_alter_86 bd f_X5_isOfUnit f_X6_mostOf
    dsimp only
    simp only [ck_nI (show j < 5 by omega) (show 5 < 2 ^ 31 by decide), nI_clamp (show j < 2 ^ 31 by omega)]
    by_cases k0 : v2 = 0
    · subst k0
      simp only [eq_self, if_true, if_neg (show ¬ (0 : Int32) = 1 by decide), if_neg (show ¬ (0 : Int32) = 2 by decide)]
      rw [ob1_s (p6_inv_t (lo := 0) (hi := 3) (by unfold In; decide)), i10, ob1_s rfl]
      by_cases c2 : In 0 3 v3
      · rw [g3_t (K := 4) c2, ob1_s rfl, i10, ob1_s (p6_inw_t (lo := 0) (w := 3) c2), i10, show (0 : Int32) = nI 0 from rfl, p6_ix, ob2_s (p6_becomes (by omega) _ _)]
        exact ⟨_, _, _, _, _, _, rfl, by rw [e1]; rfl, MR_up h (by omega) (b1 c2.1 c2.2) a1, CReal_up hC (by omega) _, fun k hk => upd_n (by omega)⟩
      · rw [g3_f (K := 4) c2, ob1_s rfl, i00, ob1_s (p6_inw_f (lo := 0) (w := 3) c2), i00]
        exact stay _
    simp only [if_neg k0]
    by_cases k1 : v2 = 1
    · subst k1
      simp only [eq_self, if_true, if_neg (show ¬ (1 : Int32) = 3 by decide), if_neg (show ¬ (1 : Int32) = 2 by decide)]
      rw [ob1_s (p6_inv_t (lo := 0) (hi := 3) (by unfold In; decide)), i10, ob1_s rfl]
      by_cases c2 : In 1 99 v3
      · rw [g5_t (L := 1) (K := 99) c2, ob1_s rfl, i10, ob1_s (p6_inw_t (lo := 1) (w := 99) c2), i10, show (2 : Int32) = nI 2 from rfl, p6_ix, ck_nI (by omega) (by decide), nI_clamp (by omega), ← e3]
        by_cases c3 : v3 < ch j
        · rw [if_pos c3, if_pos c3]
          exact stay _
        · rw [if_neg c3, if_neg c3, show (1 : Int32) = nI 1 from rfl, p6_ix, ob2_s (p6_becomes (by omega) _ _)]
          have c3' : ¬ v3.toInt < (ch j).toInt := fun q => c3 (i_lt.mpr q)
          exact ⟨_, _, _, _, _, _, rfl, by rw [e2], MR_up h (by omega) (b2 c2.1 c2.2 (by omega)) a2, CReal_up hC (by omega) _, fun k hk => upd_n (by omega)⟩
      · rw [g5_f (L := 1) (K := 99) c2, ob1_s rfl, i00, ob1_s (p6_inw_f (lo := 1) (w := 99) c2), i00]
        exact stay _
    simp only [if_neg k1]
    by_cases k2 : v2 = 2
    · subst k2
      simp only [eq_self, if_true, if_neg (show ¬ (2 : Int32) = 3 by decide)]
      rw [ob1_s (p6_inv_t (lo := 0) (hi := 3) (by unfold In; decide)), i10, ob1_s rfl]
      by_cases c2 : In 0 99 v3
      · rw [g2_t (K := 99) c2, ob1_s rfl, i10, ob1_s (p6_inw_t (lo := 0) (w := 99) c2), i10, show (1 : Int32) = nI 1 from rfl, p6_ix, ck_nI (by omega) (by decide), nI_clamp (by omega), ← e2]
        by_cases c3 : v3 ≤ rm j
        · rw [if_pos c3, if_pos c3, show (2 : Int32) = nI 2 from rfl, p6_ix, ob2_s (p6_becomes (by omega) _ _)]
          exact ⟨_, _, _, _, _, _, rfl, by rw [e3], MR_up h (by omega) (WR_upd h.1 hj v3 c2.1 (i_le.mp c3)) (RA_upd hA hc hj v3), CReal_up hC (by omega) _, fun k hk => upd_n (by omega)⟩
        · rw [if_neg c3, if_neg c3]
          exact stay _
      · rw [g2_f (K := 99) c2, ob1_s rfl, i00, ob1_s (p6_inw_f (lo := 0) (w := 99) c2), i00]
        exact stay _
    simp only [if_neg k2]
    by_cases k3 : v2 = 3
    · subst k3
      simp only [eq_self, if_true]
      rw [ob1_s (p6_inv_t (lo := 0) (hi := 3) (by unfold In; decide)), i10, ob1_s rfl]
      by_cases c2 : In 0 9 v3
      · rw [g2_t (K := 9) c2, ob1_s rfl, i10, ob1_s (p6_inw_t (lo := 0) (w := 9) c2), i10, show (3 : Int32) = nI 3 from rfl, p6_ix, ob2_s (p6_becomes (by omega) _ _)]
        exact ⟨_, _, _, _, _, _, rfl, by rw [e4], MR_up h (by omega) (b3 c2.1 c2.2) a3, CReal_up hC (by omega) _, fun k hk => upd_n (by omega)⟩
      · rw [g2_f (K := 9) c2, ob1_s rfl, i00, ob1_s (p6_inw_f (lo := 0) (w := 9) c2), i00]
        exact stay _
    simp only [if_neg k3]
    rw [ob1_s rfl, i00, ob1_s (p6_inv_f (lo := 0) (hi := 3) (not_In3 k0 k1 k2 k3)), i00]
    exact stay _
  · rw [ob1_s (p5_cell_f (by omega) c0), ob1_s (p6_unit_f hA.1 (by omega) c0), i00, i00]
    exact stay _
theorem p6_hours1 {br dm sm wm is c dm' sm' wm' is' : Int32} {m m' : Nat → Int32} (h1 : f_X6_currentNow m = some c) (h2 : f_X6_hourGoes c br dm sm wm is m = some (dm', sm', wm', is', m')) : f_X6_hoursGo 1 br dm sm wm is m = some (dm', sm', wm', is', m') := by
  unfold f_X6_hoursGo
  rw [f_X6_hoursGo_2, if_neg (by decide), ob1_s h1, ob5_s h2, f_X6_hoursGo_2, if_pos (by decide)]
theorem when_loop {nc ns : Nat} {kd rm lk pl : Nat → Int32} (hP : WP ns pl) (n1 n2 n3 n4 n5 n6 : Int32) (q1 q2 q3 q4 q5 mSt : Nat → Int32) : ∀ (d i f f' hr : Nat) (st wa dn dm sm wm is : Int32) (ch m : Nat → Int32), i + d = 201 → d < f → d < f' → hr + d < 100000 → WR nc kd rm ch lk → RR nc ns hr kd rm ch lk pl m → ∃ r o o', f_X5_when_6 n1 n2 n3 n4 n5 n6 q1 q2 q3 q4 q5 (nI nc) (nI ns) (-4) kd rm lk pl f (nI i) (nI hr) st wa dn ch = some (r, o) ∧ f_X6_when_6 (-4) mSt f' (nI i) dm sm wm is m = some (r, o') := by
  intro d
  induction d with
  | zero =>
    intro i f f' hr st wa dn dm sm wm is ch m h1 h2 h3 h4 hW hR
    obtain ⟨f, rfl⟩ : ∃ m, f = m + 1 := ⟨f - 1, by omega⟩
    obtain ⟨f', rfl⟩ : ∃ m, f' = m + 1 := ⟨f' - 1, by omega⟩
    have hi : i = 201 := by omega
    subst hi
    rw [f_X5_when_6, f_X6_when_6, if_pos (by decide), if_pos (by decide)]
    exact ⟨_, _, _, rfl, rfl⟩
  | succ d ih =>
    intro i f f' hr st wa dn dm sm wm is ch m h1 h2 h3 h4 hW hR
    obtain ⟨f, rfl⟩ : ∃ m, f = m + 1 := ⟨f - 1, by omega⟩
    obtain ⟨f', rfl⟩ : ∃ m, f' = m + 1 := ⟨f' - 1, by omega⟩
    have hb := sCur_r hP hr
    have cn : ¬ nI 200 < nI i := nI_nlt (by omega) (by omega)
    obtain ⟨stp, D, st', wa', dn', sm', wm', ch', m', g1, g2, g3, g4, g5, -⟩ := hour_rel hW hR hP.1 (-4) (sCur ns hr pl) st wa dn dm sm wm is hb.1 hb.2
    rw [f_X5_when_6, f_X6_when_6, show (200 : Int32) = nI 200 from rfl, if_neg cn, if_neg cn, ob1_s (p1_current hP.1 (by omega) pl), ob1_s (p1_stops hW.1 _ _ _ _ _), ob1_s (p1_current hP.1 (by omega) pl), ob6_s g1, ob5_s (p6_hours1 (p6_currentNow hR hP.1 (by omega)) g2), ← g3, nI_1]
    cases stp
    · rw [if_pos (show zB false = 0 from rfl), if_pos (show zB false = 0 from rfl)]
      exact ih (i + 1) f f' (hr + 1) st' wa' dn' _ sm' wm' _ ch' m' (by omega) (by omega) (by omega) (by omega) g4 g5
    · rw [if_neg (show ¬ zB true = 0 by decide), if_neg (show ¬ zB true = 0 by decide)]
      exact ⟨_, _, _, rfl, rfl⟩
theorem op_when {nc ns hr : Nat} {kd rm ch lk pl mSt : Nat → Int32} (h : MR nc ns hr kd rm ch lk pl mSt) (st wa dn : Int32) (br dm sm wm is : Int32) (mNow : Nat → Int32) (tCells tSigns tHour tStops tWaste tDone tBridged : Int32) (tKind tRoom tCharge tLeak tPlan : Nat → Int32) : ∃ r o o', f_X5_when (nI nc) (nI ns) (nI hr) st wa dn kd rm ch lk pl tCells tSigns tHour tStops tWaste tDone tBridged tKind tRoom tCharge tLeak tPlan = some (r, o) ∧ f_X6_when br dm sm wm is mSt mNow = some (r, o') := by
  unfold f_X5_when f_X6_when
  obtain ⟨m1, e1, e2⟩ := p6_starts br dm sm wm mSt mNow
  obtain ⟨tW, tP, tR, tH⟩ := MR_start h tKind tRoom tCharge tLeak tPlan e2
  rw [ob12_s (p5_start ..), ob5_s e1]
  exact when_loop tP _ _ _ _ _ _ _ _ _ _ _ _ 201 0 1000 1000 hr 0 0 0 0 0 0 is _ m1 (by omega) (by omega) (by omega) (by omega) tW tR
theorem sh16 (x : Int32) : ((x.toUInt32 >>> ((16 : Int32).toUInt32 &&& Int32.toUInt32 31)).toInt32) &&& (32767 : Int32) = (x >>> ((16 : Int32) &&& (31 : Int32))) &&& (32767 : Int32) := by
  rw [pk_and _ (m := 32767) 15 (by decide), pk_and _ (m := 32767) 15 (by decide), pk_ushr x 16 16 (by decide)]
  have e := pk_shr x (16 &&& 31) 16 (by decide)
  congr 1
  have h1 : (x >>> ((16 : Int32) &&& 31)).toInt = ((x >>> ((16 : Int32) &&& 31)).toBitVec).toInt := rfl
  have h2 : x.toInt = x.toBitVec.toInt := rfl
  rw [h1, h2, BitVec.toInt_eq_toNat_cond, BitVec.toInt_eq_toNat_cond, Int.shiftRight_eq_div_pow] at e
  have b1 := x.toBitVec.isLt
  have b2 := (x >>> ((16 : Int32) &&& 31)).toBitVec.isLt
  generalize (x >>> ((16 : Int32) &&& 31)).toBitVec.toNat = a at e b2 ⊢
  generalize x.toBitVec.toNat = b at e b1 ⊢
  simp only [Nat.reducePow] at *
  split at e <;> split at e <;> omega
theorem drift_cur (y : Int32) : -9 ≤ ((((y &&& 32767) - (y &&& 32767) / 19 * 19) - 9 : Int32)).toInt ∧ ((((y &&& 32767) - (y &&& 32767) / 19 * 19) - 9 : Int32)).toInt ≤ 9 := by
  rw [pk_and _ (m := 32767) 15 (by decide)]
  have hb := Nat.mod_lt y.toBitVec.toNat (show 2 ^ 15 > 0 by decide)
  generalize y.toBitVec.toNat % 2 ^ 15 = a at hb ⊢
  have z9 : (9 : Int32).toInt = 9 := rfl
  rw [show (19 : Int32) = nI 19 from rfl, pk_rem (by omega) (by omega) (by omega)]
  have hm := Nat.mod_lt a (show 19 > 0 by decide)
  have e := nI_toInt (show a % 19 < 2 ^ 31 by omega)
  rw [i_sub (by omega) (by omega)]
  omega
theorem drift_loop {nc ns n : Nat} (hn : n ≤ 200) {kd rm lk pl : Nat → Int32} (hs : ns ≤ 16) (v3 n1 n2 n3 n4 n5 n6 : Int32) (q1 q2 q3 q4 q5 mSt : Nat → Int32) : ∀ (d i f f' hr : Nat) (s st wa dn dm sm wm is : Int32) (ch m : Nat → Int32), i + d = n → d < f → d < f' → WR nc kd rm ch lk → RR nc ns hr kd rm ch lk pl m → CTry i st wa dn sm wm dm → ∃ r o o', f_X5_drift_44 (nI n) v3 n1 n2 n3 n4 n5 n6 q1 q2 q3 q4 q5 (nI nc) (nI ns) (-4) kd rm lk pl f s (nI i) (nI hr) st wa dn ch = some (r, o) ∧ f_X6_drift_44 (nI n) v3 (-4) mSt f' s (nI i) dm sm wm is m = some (r, o') := by
  intro d
  induction d with
  | zero =>
    intro i f f' hr s st wa dn dm sm wm is ch m h1 h2 h3 hW hR hC
    obtain ⟨f, rfl⟩ : ∃ m, f = m + 1 := ⟨f - 1, by omega⟩
    obtain ⟨f', rfl⟩ : ∃ m, f' = m + 1 := ⟨f' - 1, by omega⟩
    rw [f_X5_drift_44, f_X6_drift_44, if_pos (nI_le (by omega) (by omega)), if_pos (nI_le (by omega) (by omega))]
    by_cases k : v3 = 0
    · rw [if_pos k, if_pos k, hC.2.2.1]
      exact ⟨_, _, _, rfl, rfl⟩
    · rw [if_neg k, if_neg k]
      obtain ⟨r, s1, s2⟩ := sum_rel hW.1 hR.1
      rw [ob1_s s1, ob1_s s2]
      exact ⟨_, _, _, rfl, rfl⟩
  | succ d ih =>
    intro i f f' hr s st wa dn dm sm wm is ch m h1 h2 h3 hW hR hC
    obtain ⟨f, rfl⟩ : ∃ m, f = m + 1 := ⟨f - 1, by omega⟩
    obtain ⟨f', rfl⟩ : ∃ m, f' = m + 1 := ⟨f' - 1, by omega⟩
    rw [f_X5_drift_44, f_X6_drift_44, if_neg (nI_ge (by omega) (by omega)), if_neg (nI_ge (by omega) (by omega))]
    unfold bd
    dsimp only
    rw [sh16]
    have hb := drift_cur ((s * 1103515245 + 12345) >>> (16 &&& 31))
    obtain ⟨stp, D, st', wa', dn', sm', wm', ch', m', g1, g2, g3, g4, g5, g6, g7, -⟩ := hour_rel hW hR hs (-4) _ st wa dn dm sm wm is hb.1 hb.2
    rw [ob6_s g1, ob5_s g2, nI_1]
    exact ih (i + 1) f f' (hr + 1) _ st' wa' dn' _ sm' wm' _ ch' m' (by omega) (by omega) (by omega) g4 g5 (by have := g7 i (by omega) hC; exact this)
theorem op_drift {nc ns hr : Nat} {kd rm ch lk pl mSt : Nat → Int32} (h : MR nc ns hr kd rm ch lk pl mSt) (st wa dn : Int32) (v1 v2 v3 : Int32) (br dm sm wm is : Int32) (mNow : Nat → Int32) (tCells tSigns tHour tStops tWaste tDone tBridged : Int32) (tKind tRoom tCharge tLeak tPlan : Nat → Int32) : ∃ r o o', f_X5_drift v1 v2 v3 (nI nc) (nI ns) (nI hr) st wa dn kd rm ch lk pl tCells tSigns tHour tStops tWaste tDone tBridged tKind tRoom tCharge tLeak tPlan = some (r, o) ∧ f_X6_drift v1 v2 v3 br dm sm wm is mSt mNow = some (r, o') := by
  have hc := h.1.1
  have hA := h.2.2.1.1
  unfold f_X5_drift f_X6_drift
  by_cases c1 : In 1 200 v2
  · rw [g5_t (L := 1) (K := 200) c1, ob1_s (p6_inv_t (lo := 1) (hi := 200) c1), i10]
    by_cases c2 : In 0 1 v3
    · rw [ob1_s (p5_half_t c2), ob1_s (p6_part_t c2), i10, i10, show (20 : Int32) = nI 20 from rfl, ck_nI (by decide) (by decide), nI_clamp (by decide), hA.1]
      by_cases c3 : nI nc = 0
      · rw [if_pos c3, if_pos c3]
        exact ⟨_, _, _, rfl, rfl⟩
      · rw [if_neg c3, if_neg c3]
        have c1' : In 0 200 v2 := ⟨by have := c1.1; omega, c1.2⟩
        obtain ⟨n, n1, n2, rfl⟩ := In_nat c1'
        obtain ⟨m1, e1, e2⟩ := p6_starts br dm sm wm mSt mNow
        obtain ⟨tW, tP, tR, tH⟩ := MR_start h tKind tRoom tCharge tLeak tPlan e2
        rw [ob12_s (p5_start ..), ob5_s e1]
        exact drift_loop (n := n) (by omega) tP.1 v3 _ _ _ _ _ _ _ _ _ _ _ _ n 0 1000 1000 hr v1 0 0 0 0 0 0 is _ m1 (by omega) (by omega) (by omega) tW tR CTry_0
    · rw [ob1_s (p5_half_f c2), ob1_s (p6_part_f c2), i00, i00]
      exact ⟨_, _, _, rfl, rfl⟩
  · rw [g5_f (L := 1) (K := 200) c1, ob1_s (p6_inv_f (lo := 1) (hi := 200) c1), i00]
    exact ⟨_, _, _, rfl, rfl⟩
