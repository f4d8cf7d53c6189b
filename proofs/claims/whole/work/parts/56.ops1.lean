theorem i10 {α : Type} {a b : α} : (if (1 : Int32) = 0 then a else b) = b := if_neg (by decide)
theorem i00 {α : Type} {a b : α} : (if (0 : Int32) = 0 then a else b) = a := if_pos rfl
theorem ob12_s {A1 A2 A3 A4 A5 A6 A7 A8 A9 A10 A11 A12 B : Type} {a1 : A1} {a2 : A2} {a3 : A3} {a4 : A4} {a5 : A5} {a6 : A6} {a7 : A7} {a8 : A8} {a9 : A9} {a10 : A10} {a11 : A11} {a12 : A12} {x : Option (A1 × A2 × A3 × A4 × A5 × A6 × A7 × A8 × A9 × A10 × A11 × A12)} {k : A1 → A2 → A3 → A4 → A5 → A6 → A7 → A8 → A9 → A10 → A11 → A12 → Option B} (h : x = some (a1, a2, a3, a4, a5, a6, a7, a8, a9, a10, a11, a12)) : ob12 x k = k a1 a2 a3 a4 a5 a6 a7 a8 a9 a10 a11 a12 := by rw [h]; rfl
theorem not_In3 {v : Int32} (h0 : ¬ v = 0) (h1 : ¬ v = 1) (h2 : ¬ v = 2) (h3 : ¬ v = 3) : ¬ In 0 3 v := fun q => by
  have z0 : (0 : Int32).toInt = 0 := rfl
  have z1 : (1 : Int32).toInt = 1 := rfl
  have z2 : (2 : Int32).toInt = 2 := rfl
  have z3 : (3 : Int32).toInt = 3 := rfl
  have a0 : ¬ v.toInt = (0 : Int32).toInt := fun e => h0 (i_eq.mpr e)
  have a1 : ¬ v.toInt = (1 : Int32).toInt := fun e => h1 (i_eq.mpr e)
  have a2 : ¬ v.toInt = (2 : Int32).toInt := fun e => h2 (i_eq.mpr e)
  have a3 : ¬ v.toInt = (3 : Int32).toInt := fun e => h3 (i_eq.mpr e)
  have := q.1
  have := q.2
  omega
theorem In_cell {nc : Nat} {v : Int32} (hc : nc ≤ 16) (h : In 0 ((nc : Int) - 1) v) : ∃ j, j < nc ∧ v = nI j := by
  obtain ⟨j, h1, -, h2⟩ := In_nat h
  exact ⟨j, by omega, h2⟩
theorem op_unit {nc ns hr : Nat} {kd rm ch lk pl mSt : Nat → Int32} (h : MR nc ns hr kd rm ch lk pl mSt) (v1 v2 : Int32) : ∃ r, f_X5_unit v1 v2 (nI nc) kd rm ch lk = some r ∧ f_X6_unit v1 v2 mSt = some r := by
  obtain ⟨hW, hP, ⟨hA, r2, r3, r4⟩, hh⟩ := h
  have hc := hW.1
  unfold f_X5_unit f_X6_unit
  by_cases c1 : In 0 ((nc : Int) - 1) v1
  · rw [ob1_s (p5_cell_t (by omega) c1), ob1_s (p6_unit_t hA.1 (by omega) c1), i10, i10]
    obtain ⟨j, hj, rfl⟩ := In_cell (by omega) c1
    obtain ⟨e1, e2, e3, e4⟩ := hA.2 j hj
    simp only [ck_nI (show j < 5 by omega) (show 5 < 2 ^ 31 by decide), nI_clamp (show j < 2 ^ 31 by omega)]
    by_cases k0 : v2 = 0
    · subst k0
      rw [if_pos rfl, ob1_s (p6_inv_t (lo := 0) (hi := 3) (by unfold In; decide)), i10, show (0 : Int32) = nI 0 from rfl, p6_ix, ck_nI (by omega) (by decide), nI_clamp (by omega)]
      exact ⟨_, rfl, by rw [e1]; rfl⟩
    · rw [if_neg k0]
      by_cases k1 : v2 = 1
      · subst k1
        rw [if_pos rfl, ob1_s (p6_inv_t (lo := 0) (hi := 3) (by unfold In; decide)), i10, show (1 : Int32) = nI 1 from rfl, p6_ix, ck_nI (by omega) (by decide), nI_clamp (by omega)]
        exact ⟨_, rfl, by rw [e2]⟩
      · rw [if_neg k1]
        by_cases k2 : v2 = 2
        · subst k2
          rw [if_pos rfl, ob1_s (p6_inv_t (lo := 0) (hi := 3) (by unfold In; decide)), i10, show (2 : Int32) = nI 2 from rfl, p6_ix, ck_nI (by omega) (by decide), nI_clamp (by omega)]
          exact ⟨_, rfl, by rw [e3]⟩
        · rw [if_neg k2]
          by_cases k3 : v2 = 3
          · subst k3
            rw [if_pos rfl, ob1_s (p6_inv_t (lo := 0) (hi := 3) (by unfold In; decide)), i10, show (3 : Int32) = nI 3 from rfl, p6_ix, ck_nI (by omega) (by decide), nI_clamp (by omega)]
            exact ⟨_, rfl, by rw [e4]⟩
          · rw [if_neg k3, ob1_s (p6_inv_f (lo := 0) (hi := 3) (not_In3 k0 k1 k2 k3)), i00]
            exact ⟨_, rfl, rfl⟩
  · rw [ob1_s (p5_cell_f (by omega) c1), ob1_s (p6_unit_f hA.1 (by omega) c1), i00, i00]
    exact ⟨_, rfl, rfl⟩
theorem op_sign {nc ns hr : Nat} {kd rm ch lk pl mSt : Nat → Int32} (h : MR nc ns hr kd rm ch lk pl mSt) (v1 : Int32) : ∃ r, f_X5_sign v1 (nI ns) pl = some r ∧ f_X6_sign v1 mSt = some r := by
  obtain ⟨hW, hP, ⟨hA, r2, r3, r4⟩, hh⟩ := h
  have hs := hP.1
  unfold f_X5_sign f_X6_sign
  by_cases c1 : In 0 ((ns : Int) - 1) v1
  · rw [ob1_s (p5_sign_t (by omega) c1), ob1_s (p6_sign_t r2 (by omega) c1), i10, i10]
    obtain ⟨j, hj, rfl⟩ := In_cell (by omega) c1
    rw [ck_nI (by omega) (by decide), nI_clamp (by omega), show (21 : Int32) = nI 21 from rfl, nI_add, ck_nI (by omega) (by decide), nI_clamp (by omega)]
    exact ⟨_, rfl, by rw [r3 j hj]⟩
  · rw [ob1_s (p5_sign_f (by omega) c1), ob1_s (p6_sign_f r2 (by omega) c1), i00, i00]
    exact ⟨_, rfl, rfl⟩
theorem p6_flag (b : Bool) : f_X6_flag (zB b) = some (zB b) := by
  cases b <;> rfl
theorem op_rule {nc ns hr : Nat} {kd rm ch lk pl mSt : Nat → Int32} (h : MR nc ns hr kd rm ch lk pl mSt) {st wa dn : Int32} (hC : CReal st wa dn mSt) (v1 br dm sm wm : Int32) (mNow : Nat → Int32) : ∃ r o, f_X5_rule v1 (nI nc) (nI ns) (nI hr) st wa dn (-4) kd rm ch pl = some r ∧ f_X6_rule v1 br dm sm wm mSt mNow = some (r, o) := by
  obtain ⟨m', e1, e2⟩ := p6_starts br dm sm wm mSt mNow
  obtain ⟨tW, tP, tR, tH⟩ := MR_cg h (fun _ _ => rfl) (fun _ _ => rfl) (fun _ _ => rfl) (fun _ _ => rfl) (fun _ _ => rfl) e2
  obtain ⟨hW, hP, ⟨hA, r2, r3, r4⟩, hh⟩ := h
  obtain ⟨q1, q2, q3, -⟩ := hC
  have hc := hW.1
  unfold f_X5_rule f_X6_rule
  rw [ob5_s e1, show (20 : Int32) = nI 20 from rfl, show (37 : Int32) = nI 37 from rfl, show (38 : Int32) = nI 38 from rfl, show (39 : Int32) = nI 39 from rfl, show (40 : Int32) = nI 40 from rfl, show (41 : Int32) = nI 41 from rfl]
  simp only [ck_nI (show 20 < 183 by decide) (show 183 < 2 ^ 31 by decide), ck_nI (show 37 < 183 by decide) (show 183 < 2 ^ 31 by decide), ck_nI (show 38 < 183 by decide) (show 183 < 2 ^ 31 by decide), ck_nI (show 39 < 183 by decide) (show 183 < 2 ^ 31 by decide), ck_nI (show 40 < 183 by decide) (show 183 < 2 ^ 31 by decide), ck_nI (show 41 < 183 by decide) (show 183 < 2 ^ 31 by decide), nI_clamp (show 20 < 2 ^ 31 by decide), nI_clamp (show 37 < 2 ^ 31 by decide), nI_clamp (show 38 < 2 ^ 31 by decide), nI_clamp (show 39 < 2 ^ 31 by decide), nI_clamp (show 40 < 2 ^ 31 by decide), nI_clamp (show 41 < 2 ^ 31 by decide), hA.1, r2, r4, ← q1, ← q2, ← q3]
  by_cases k0 : v1 = 0
  · rw [if_pos k0, if_pos k0]; exact ⟨_, _, rfl, rfl⟩
  rw [if_neg k0, if_neg k0]
  by_cases k1 : v1 = 1
  · rw [if_pos k1, if_pos k1]; exact ⟨_, _, rfl, rfl⟩
  rw [if_neg k1, if_neg k1]
  by_cases k2 : v1 = 2
  · rw [if_pos k2, if_pos k2]; exact ⟨_, _, rfl, rfl⟩
  rw [if_neg k2, if_neg k2]
  by_cases k3 : v1 = 3
  · rw [if_pos k3, if_pos k3]; exact ⟨_, _, rfl, rfl⟩
  rw [if_neg k3, if_neg k3]
  by_cases k4 : v1 = 4
  · rw [if_pos k4, if_pos k4]; exact ⟨_, _, rfl, rfl⟩
  rw [if_neg k4, if_neg k4]
  by_cases k5 : v1 = 5
  · rw [if_pos k5, if_pos k5]; exact ⟨_, _, rfl, rfl⟩
  rw [if_neg k5, if_neg k5]
  by_cases k6 : v1 = 6
  · rw [if_pos k6, if_pos k6]
    obtain ⟨r, s1, s2⟩ := sum_rel hc tR.1
    rw [ob1_s s1, ob1_s s2]
    exact ⟨_, _, rfl, rfl⟩
  rw [if_neg k6, if_neg k6]
  by_cases k7 : v1 = 7
  · rw [if_pos k7, if_pos k7, ob1_s (p1_current hP.1 (by omega) pl), ob1_s (p1_stops hc _ _ _ _ _), ob1_s (p6_currentNow tR hP.1 (by omega)), ob1_s (p6_anyStops tW tR.1 _ _), ob1_s (p6_flag _)]
    cases sSt (-4) (sCur ns hr pl) kd rm ch nc 0
    · exact ⟨_, _, rfl, rfl⟩
    · exact ⟨_, _, rfl, rfl⟩
  rw [if_neg k7, if_neg k7]
  exact ⟨_, _, rfl, rfl⟩
theorem told_cur {v : Int32} (h : In 0 18 v) : -9 ≤ (v - 9).toInt ∧ (v - 9).toInt ≤ 9 := by
  have z9 : (9 : Int32).toInt = 9 := rfl
  have := h.1
  have := h.2
  rw [i_sub (by omega) (by omega)]
  omega
theorem CReal_cg {st wa dn : Int32} {m m' : Nat → Int32} (h : CReal st wa dn m) (hm : ∀ k, k < 61 → m' k = m k) : CReal st wa dn m' := by
  obtain ⟨a, b, c, d⟩ := h
  exact ⟨by rw [hm 39 (by omega)]; exact a, by rw [hm 40 (by omega)]; exact b, by rw [hm 41 (by omega)]; exact c, d⟩
theorem MR_st {nc ns hr : Nat} {kd rm ch lk pl m m' : Nat → Int32} (h : MR nc ns hr kd rm ch lk pl m) (hm : ∀ k, k < 61 → m' k = m k) : MR nc ns hr kd rm ch lk pl m' := MR_cg h (fun _ _ => rfl) (fun _ _ => rfl) (fun _ _ => rfl) (fun _ _ => rfl) (fun _ _ => rfl) hm
theorem op_send {nc ns hr : Nat} {kd rm ch lk pl mSt : Nat → Int32} (h : MR nc ns hr kd rm ch lk pl mSt) {st wa dn : Int32} (hC : CReal st wa dn mSt) (v1 : Int32) (br dm sm wm is : Int32) (mNow : Nat → Int32) : ∃ r st' wa' dn' ch' br' dm' sm' wm' is' mSt' mNow', f_X5_send v1 (nI nc) st wa dn (-4) kd rm ch = some (r, st', wa', dn', ch') ∧ f_X6_send v1 br dm sm wm is mSt mNow = some (r, br', dm', sm', wm', is', mSt', mNow') ∧ MR nc ns hr kd rm ch' lk pl mSt' ∧ CReal st' wa' dn' mSt' ∧ ∀ k, 42 ≤ k → mSt' k = mSt k := by
  unfold f_X5_send f_X6_send
  by_cases c1 : In 0 18 v1
  · rw [ob1_s (p5_told_t c1), ob1_s (p6_told_t c1), i10, i10]
    obtain ⟨m1, e1, e2⟩ := p6_starts br dm sm wm mSt mNow
    obtain ⟨tW, tP, ⟨tA, t2, t3, t4⟩, tH⟩ := MR_st h e2
    have tC := CReal_cg hC e2
    have hb := told_cur c1
    have hs := tP.1
    obtain ⟨stp, st', wa', dn', dm', sm', wm', ch', m2, g1, g2, -, g4, g5, g6, -, -, g9, -⟩ := send_rel tW tA (-4) (v1 - 9) st wa dn 0 0 0 is hb.1 hb.2
    obtain ⟨m3, s1, s2, s3⟩ := p6_settles mSt m2
    have hk : ∀ k, k < 61 → m3 k = m2 k := s2
    have key : MR nc ns hr kd rm ch' lk pl m3 := by
      refine ⟨g4, tP, ⟨RA_cg g5 g4.1 (fun _ _ => rfl) (fun _ _ => rfl) (fun _ _ => rfl) (fun _ _ => rfl) hk, ?_, fun i hi => ?_, ?_⟩, tH⟩
      · rw [hk 37 (by omega), g9 37 (by omega) (by omega) (by omega) (by omega)]; exact t2
      · rw [hk (21 + i) (by omega), g9 (21 + i) (by omega) (by omega) (by omega) (by omega)]; exact t3 i hi
      · rw [hk 38 (by omega), g9 38 (by omega) (by omega) (by omega) (by omega)]; exact t4
    have fr : ∀ k, 42 ≤ k → m3 k = mSt k := fun k hk2 => by
      by_cases c : k < 61
      · rw [hk k c, g9 k (by omega) (by omega) (by omega) (by omega), e2 k c]
      · exact s3 k (by omega)
    rw [ob5_s g1, ob5_s e1, ob5_s g2, ob1_s s1, ob1_s (p6_flag stp)]
    cases stp
    · exact ⟨_, _, _, _, _, _, _, _, _, _, _, _, rfl, rfl, key, CReal_cg (g6 tC) hk, fr⟩
    · exact ⟨_, _, _, _, _, _, _, _, _, _, _, _, rfl, rfl, key, CReal_cg (g6 tC) hk, fr⟩
  · rw [ob1_s (p5_told_f c1), ob1_s (p6_told_f c1), i00, i00]
    exact ⟨_, _, _, _, _, _, _, _, _, _, _, _, rfl, rfl, h, hC, fun _ _ => rfl⟩
theorem op_hours {nc ns hr : Nat} {kd rm ch lk pl mSt : Nat → Int32} (h : MR nc ns hr kd rm ch lk pl mSt) {st wa dn : Int32} (hC : CReal st wa dn mSt) (v1 : Int32) (br dm sm wm is : Int32) (mNow : Nat → Int32) : ∃ r hr' st' wa' dn' ch' br' dm' sm' wm' is' mSt' mNow', f_X5_hours v1 (nI nc) (nI ns) (nI hr) st wa dn (-4) kd rm ch lk pl = some (r, nI hr', st', wa', dn', ch') ∧ f_X6_hours v1 br dm sm wm is mSt mNow = some (r, br', dm', sm', wm', is', mSt', mNow') ∧ MR nc ns hr' kd rm ch' lk pl mSt' ∧ CReal st' wa' dn' mSt' ∧ ∀ k, 42 ≤ k → mSt' k = mSt k := by
  unfold f_X5_hours f_X6_hours
  by_cases c1 : In 0 100 v1
  · obtain ⟨n, n1, n2, rfl⟩ := In_nat c1
    have hh := h.2.2.2
    rw [g4_t (K := 100) c1, ob1_s (p6_inv_t (lo := 0) (hi := 100) c1), i10, show (38 : Int32) = nI 38 from rfl, ck_nI (by decide) (by decide), nI_clamp (by decide), h.2.2.1.2.2.2, nI_add, show (9999 : Int32) = nI 9999 from rfl]
    by_cases c2 : hr + n ≤ 9999
    · rw [if_pos (nI_le c2 (by omega)), if_pos (nI_le c2 (by omega))]
      obtain ⟨m1, e1, e2⟩ := p6_starts br dm sm wm mSt mNow
      obtain ⟨tW, tP, tR, tH⟩ := MR_st h e2
      have tC := CReal_cg hC e2
      obtain ⟨D, st', wa', dn', sm', wm', is', ch', m2, g1, g2, g3, g4, g5, -, hfr⟩ := hours_rel tW tP tR (-4) (n := n) (by omega) (by omega) st wa dn 0 0 0 is
      obtain ⟨m3, s1, s2, s3⟩ := p6_settles mSt m2
      rw [Int32.zero_add] at g2
      rw [ob6_s g1, ob5_s e1, ob5_s g2, ob1_s s1]
      refine ⟨_, hr + n, _, _, _, _, _, _, _, _, _, _, _, rfl, rfl, MR_st ⟨g3, tP, g4, c2⟩ s2, CReal_cg (g5 tC) s2, fun k hk => ?_⟩
      by_cases c : k < 61
      · rw [s2 k c, hfr k hk, e2 k c]
      · exact s3 k (by omega)
    · rw [if_neg (nI_ge (by omega) (by omega)), if_neg (nI_ge (by omega) (by omega))]
      exact ⟨_, hr, _, _, _, _, _, _, _, _, _, _, _, rfl, rfl, h, hC, fun _ _ => rfl⟩
  · rw [g4_f (K := 100) c1, ob1_s (p6_inv_f (lo := 0) (hi := 100) c1), i00]
    exact ⟨_, hr, _, _, _, _, _, _, _, _, _, _, _, rfl, rfl, h, hC, fun _ _ => rfl⟩
