theorem p6_becomes {k : Nat} (hk : k < 183) (v : Int32) (m : Nat → Int32) : f_X6_becomes (nI k) v m = some (m k, upd m k v) := by
  unfold f_X6_becomes bd
  dsimp only
  rw [ck_nI hk (by decide), ck_nI hk (by decide), nI_clamp (by omega)]
theorem op_set {nc ns hr : Nat} {kd rm ch lk pl mSt : Nat → Int32} (h : MR nc ns hr kd rm ch lk pl mSt) {st wa dn : Int32} (hC : CReal st wa dn mSt) (v1 v2 : Int32) : ∃ r pl' mSt', f_X5_set v1 v2 (nI ns) pl = some (r, pl') ∧ f_X6_set v1 v2 mSt = some (r, mSt') ∧ MR nc ns hr kd rm ch lk pl' mSt' ∧ CReal st wa dn mSt' ∧ (∀ k, 42 ≤ k → mSt' k = mSt k) ∧ ((In 0 ((ns : Int) - 1) v1 ∧ In 0 18 v2 ∧ 0 ≤ r.toInt ∧ pl' = upd pl v1.toNatClampNeg v2) ∨ (¬ (In 0 ((ns : Int) - 1) v1 ∧ In 0 18 v2) ∧ r = (-1) ∧ pl' = pl)) := by
  obtain ⟨hW, hP, ⟨hA, r2, r3, r4⟩, hh⟩ := id h
  have hs := hP.1
  have hc := hW.1
  unfold f_X5_set f_X6_set
  by_cases c1 : In 0 ((ns : Int) - 1) v1
  · rw [ob1_s (p5_sign_t (by omega) c1), ob1_s (p6_sign_t r2 (by omega) c1), i10, i10]
    by_cases c2 : In 0 18 v2
    · rw [ob1_s (p5_told_t c2), ob1_s (p6_told_t c2), i10, i10]
      have c1' := c1
      obtain ⟨j, hj, rfl⟩ := In_cell (by omega) c1
      have hpj := hP.2 j hj
      unfold bd
      dsimp only
      rw [ck_nI (by omega) (by decide), ck_nI (by omega) (by decide), nI_clamp (by omega), show (21 : Int32) = nI 21 from rfl, nI_add, ob2_s (p6_becomes (by omega) v2 mSt), ← r3 j hj]
      refine ⟨_, _, _, rfl, rfl, ⟨hW, ⟨hs, fun i hi => ?_⟩, ⟨RA_far hA hc (by omega) _, by rw [upd_n (by omega)]; exact r2, fun i hi => ?_, by rw [upd_n (by omega)]; exact r4⟩, hh⟩, ?_, fun k hk => upd_n (by omega), Or.inl ⟨c1', c2, by omega, rfl⟩⟩
      · by_cases e : i = j
        · subst e; rw [upd_s]; exact ⟨c2.1, c2.2⟩
        · rw [upd_n e]; exact hP.2 i hi
      · by_cases e : i = j
        · subst e; rw [upd_s, upd_s]
        · rw [upd_n e, upd_n (by omega)]; exact r3 i hi
      · obtain ⟨a, b, c, d⟩ := hC
        exact ⟨by rw [upd_n (by omega)]; exact a, by rw [upd_n (by omega)]; exact b, by rw [upd_n (by omega)]; exact c, d⟩
    · rw [ob1_s (p5_told_f c2), ob1_s (p6_told_f c2), i00, i00]
      exact ⟨_, _, _, rfl, rfl, h, hC, fun _ _ => rfl, Or.inr ⟨fun q => c2 q.2, rfl, rfl⟩⟩
  · rw [ob1_s (p5_sign_f (by omega) c1), ob1_s (p6_sign_f r2 (by omega) c1), i00, i00]
    exact ⟨_, _, _, rfl, rfl, h, hC, fun _ _ => rfl, Or.inr ⟨fun q => c1 q.1, rfl, rfl⟩⟩
theorem op_add {nc ns hr : Nat} {kd rm ch lk pl mSt : Nat → Int32} (h : MR nc ns hr kd rm ch lk pl mSt) {st wa dn : Int32} (hC : CReal st wa dn mSt) (v1 : Int32) : ∃ r ns' pl' mSt', f_X5_add v1 (nI ns) pl = some (r, nI ns', pl') ∧ f_X6_add v1 mSt = some (r, mSt') ∧ MR nc ns' hr kd rm ch lk pl' mSt' ∧ CReal st wa dn mSt' ∧ ∀ k, 42 ≤ k → mSt' k = mSt k := by
  obtain ⟨hW, hP, ⟨hA, r2, r3, r4⟩, hh⟩ := id h
  have hs := hP.1
  have hc := hW.1
  unfold f_X5_add f_X6_add f_X1_appendSign
  by_cases c1 : In 0 18 v1
  · rw [ob1_s (p5_told_t c1), ob1_s (p6_told_t c1), i10, i10, show (37 : Int32) = nI 37 from rfl, show (16 : Int32) = nI 16 from rfl]
    simp only [ck_nI (show 37 < 183 by decide) (show 183 < 2 ^ 31 by decide), nI_clamp (show 37 < 2 ^ 31 by decide), r2]
    by_cases c2 : ns < 16
    · rw [if_pos (nI_lt c2 (by omega)), if_neg (nI_ge c2 (by omega)), if_neg (nI_ne_of (by omega) (by omega) (by omega)), ck_nI (by omega) (by decide), nI_clamp (by omega), nI_1, show (21 : Int32) = nI 21 from rfl, nI_add, ck_nI (by omega) (by decide), nI_clamp (by omega), upd_s, upd_n (show ¬ 37 = 21 + ns by omega), r2, nI_1]
      refine ⟨nI (ns + 1), ns + 1, _, _, rfl, rfl, ⟨hW, ⟨by omega, fun i hi => ?_⟩, ⟨RA_far (RA_far hA hc (by omega) _) hc (by omega) _, upd_s, fun i hi => ?_, by rw [upd_n (by omega), upd_n (by omega)]; exact r4⟩, hh⟩, ?_, fun k hk => by rw [upd_n (by omega), upd_n (by omega)]⟩
      · by_cases e : i = ns
        · subst e; rw [upd_s]; exact ⟨c1.1, c1.2⟩
        · rw [upd_n e]; exact hP.2 i (by omega)
      · rw [upd_n (show ¬ 21 + i = 37 by omega)]
        by_cases e : i = ns
        · subst e; rw [upd_s, upd_s]
        · rw [upd_n e, upd_n (by omega)]; exact r3 i (by omega)
      · obtain ⟨a, b, c, d⟩ := hC
        exact ⟨by rw [upd_n (by omega), upd_n (by omega)]; exact a, by rw [upd_n (by omega), upd_n (by omega)]; exact b, by rw [upd_n (by omega), upd_n (by omega)]; exact c, d⟩
    · have e : ns = 16 := by omega
      subst e
      rw [if_neg (by decide), if_pos rfl]
      exact ⟨_, 16, _, _, rfl, rfl, h, hC, fun _ _ => rfl⟩
  · rw [ob1_s (p5_told_f c1), ob1_s (p6_told_f c1), i00, i00]
    exact ⟨_, ns, _, _, rfl, rfl, h, hC, fun _ _ => rfl⟩
theorem op_cut {nc ns hr : Nat} {kd rm ch lk pl mSt : Nat → Int32} (h : MR nc ns hr kd rm ch lk pl mSt) {st wa dn : Int32} (hC : CReal st wa dn mSt) (v1 : Int32) : ∃ r ns' mSt', f_X5_cut v1 (nI ns) = some (r, nI ns') ∧ f_X6_cut v1 mSt = some (r, mSt') ∧ MR nc ns' hr kd rm ch lk pl mSt' ∧ CReal st wa dn mSt' ∧ ∀ k, 42 ≤ k → mSt' k = mSt k := by
  obtain ⟨hW, hP, ⟨hA, r2, r3, r4⟩, hh⟩ := id h
  have hs := hP.1
  have hc := hW.1
  unfold f_X5_cut f_X6_cut
  rw [show (37 : Int32) = nI 37 from rfl, ck_nI (by decide) (by decide), nI_clamp (by decide), r2]
  by_cases c1 : In 0 (nI ns).toInt v1
  · rw [g4_t (K := nI ns) c1, ob1_s (p6_inw_t (lo := 0) c1), i10, ob2_s (p6_becomes (by decide) v1 mSt), r2]
    obtain ⟨n, n1, n2, rfl⟩ := In_nat c1
    rw [nI_toInt (by omega)] at n1
    refine ⟨_, n, _, rfl, rfl, ⟨hW, ⟨by omega, fun i hi => hP.2 i (by omega)⟩, ⟨RA_far hA hc (by omega) _, upd_s, fun i hi => by rw [upd_n (by omega)]; exact r3 i (by omega), by rw [upd_n (by omega)]; exact r4⟩, hh⟩, ?_, fun k hk => upd_n (by omega)⟩
    obtain ⟨a, b, c, d⟩ := hC
    exact ⟨by rw [upd_n (by omega)]; exact a, by rw [upd_n (by omega)]; exact b, by rw [upd_n (by omega)]; exact c, d⟩
  · rw [g4_f (K := nI ns) c1, ob1_s (p6_inw_f (lo := 0) c1), i00]
    exact ⟨_, ns, _, rfl, rfl, h, hC, fun _ _ => rfl⟩
theorem op_runs {nc ns hr : Nat} {kd rm ch lk pl mSt : Nat → Int32} (h : MR nc ns hr kd rm ch lk pl mSt) (st wa dn : Int32) (v1 v2 : Int32) (br dm sm wm is : Int32) (mNow : Nat → Int32) (tCells tSigns tHour tStops tWaste tDone tBridged : Int32) (tKind tRoom tCharge tLeak tPlan : Nat → Int32) : ∃ r o o', f_X5_runs v1 v2 (nI nc) (nI ns) (nI hr) st wa dn kd rm ch lk pl tCells tSigns tHour tStops tWaste tDone tBridged tKind tRoom tCharge tLeak tPlan = some (r, o) ∧ f_X6_runs v1 v2 br dm sm wm is mSt mNow = some (r, o') := by
  unfold f_X5_runs f_X6_runs
  by_cases c1 : In 0 200 v1
  · rw [ob1_s (p5_far_t c1), ob1_s (p6_far_t c1), i10, i10]
    by_cases c2 : In 0 3 v2
    · rw [g4_t (K := 3) c2, ob1_s (p6_inv_t (lo := 0) (hi := 3) c2), i10, ob12_s (p5_start ..)]
      obtain ⟨n, n1, n2, rfl⟩ := In_nat c1
      obtain ⟨m1, e1, e2⟩ := p6_starts br dm sm wm mSt mNow
      obtain ⟨D, st', wa', is', ch', m2, g1, g2, g3, g4, -⟩ := trial_hours (MR_start h tKind tRoom tCharge tLeak tPlan e2) (-4) (n := n) (by omega) is
      rw [ob6_s g1, ob5_s e1, ob5_s g2]
      by_cases k0 : v2 = 0
      · rw [if_pos k0, if_pos k0]; exact ⟨_, _, _, rfl, rfl⟩
      rw [if_neg k0, if_neg k0]
      by_cases k1 : v2 = 1
      · rw [if_pos k1, if_pos k1]; exact ⟨_, _, _, rfl, rfl⟩
      rw [if_neg k1, if_neg k1]
      by_cases k2 : v2 = 2
      · rw [if_pos k2, if_pos k2]; exact ⟨_, _, _, rfl, rfl⟩
      rw [if_neg k2, if_neg k2]
      obtain ⟨r, s1, s2⟩ := sum_rel g3.1 g4.1
      rw [ob1_s s1, ob1_s s2]
      exact ⟨_, _, _, rfl, rfl⟩
    · rw [g4_f (K := 3) c2, ob1_s (p6_inv_f (lo := 0) (hi := 3) c2), i00]
      exact ⟨_, _, _, rfl, rfl⟩
  · rw [ob1_s (p5_far_f c1), ob1_s (p6_far_f c1), i00, i00]
    exact ⟨_, _, _, rfl, rfl⟩
theorem op_ahead {nc ns hr : Nat} {kd rm ch lk pl mSt : Nat → Int32} (h : MR nc ns hr kd rm ch lk pl mSt) (st wa dn : Int32) (v1 v2 : Int32) (br dm sm wm is : Int32) (mNow : Nat → Int32) (tCells tSigns tHour tStops tWaste tDone tBridged : Int32) (tKind tRoom tCharge tLeak tPlan : Nat → Int32) : ∃ r o o', f_X5_ahead v1 v2 (nI nc) (nI ns) (nI hr) st wa dn kd rm ch lk pl tCells tSigns tHour tStops tWaste tDone tBridged tKind tRoom tCharge tLeak tPlan = some (r, o) ∧ f_X6_ahead v1 v2 br dm sm wm is mSt mNow = some (r, o') := by
  have hc := h.1.1
  have hA := h.2.2.1.1
  unfold f_X5_ahead f_X6_ahead
  by_cases c0 : In 0 ((nc : Int) - 1) v1
  · rw [ob1_s (p5_cell_t (by omega) c0), ob1_s (p6_unit_t hA.1 (by omega) c0), i10, i10]
    obtain ⟨j, hj, rfl⟩ := In_cell (by omega) c0
    by_cases c1 : In 0 200 v2
    · rw [ob1_s (p5_far_t c1), ob1_s (p6_far_t c1), i10, i10, ob12_s (p5_start ..)]
      obtain ⟨n, n1, n2, rfl⟩ := In_nat c1
      obtain ⟨m1, e1, e2⟩ := p6_starts br dm sm wm mSt mNow
      obtain ⟨D, st', wa', is', ch', m2, g1, g2, g3, g4, -⟩ := trial_hours (MR_start h tKind tRoom tCharge tLeak tPlan e2) (-4) (n := n) (by omega) is
      rw [ob6_s g1, ob5_s e1, ob5_s g2, ck_nI (by omega) (by decide), nI_clamp (by omega), ob1_s (p6_of2 (by omega) m2), ← (g4.1.2 j hj).2.2.1]
      exact ⟨_, _, _, rfl, rfl⟩
    · rw [ob1_s (p5_far_f c1), ob1_s (p6_far_f c1), i00, i00]
      exact ⟨_, _, _, rfl, rfl⟩
  · rw [ob1_s (p5_cell_f (by omega) c0), ob1_s (p6_unit_f hA.1 (by omega) c0), i00, i00]
    exact ⟨_, _, _, rfl, rfl⟩
theorem RA_upk {nc : Nat} {kd rm ch lk m : Nat → Int32} (hR : RA nc kd rm ch lk m) (hc : nc ≤ 5) {j : Nat} (hj : j < nc) (v : Int32) : RA nc (upd kd j v) rm ch lk (upd m (4 * j) v) ∧ RA nc kd (upd rm j v) ch lk (upd m (4 * j + 1) v) ∧ RA nc kd rm ch (upd lk j v) (upd m (4 * j + 3) v) := by
  refine ⟨⟨by rw [upd_n (by omega)]; exact hR.1, fun i hi => ?_⟩, ⟨by rw [upd_n (by omega)]; exact hR.1, fun i hi => ?_⟩, ⟨by rw [upd_n (by omega)]; exact hR.1, fun i hi => ?_⟩⟩
  · obtain ⟨r1, r2, r3, r4⟩ := hR.2 i hi
    refine ⟨?_, by rw [upd_n (by omega)]; exact r2, by rw [upd_n (by omega)]; exact r3, by rw [upd_n (by omega)]; exact r4⟩
    by_cases e : i = j
    · subst e; rw [upd_s, upd_s]
    · rw [upd_n e, upd_n (by omega)]; exact r1
  · obtain ⟨r1, r2, r3, r4⟩ := hR.2 i hi
    refine ⟨by rw [upd_n (by omega)]; exact r1, ?_, by rw [upd_n (by omega)]; exact r3, by rw [upd_n (by omega)]; exact r4⟩
    by_cases e : i = j
    · subst e; rw [upd_s, upd_s]
    · rw [upd_n e, upd_n (by omega)]; exact r2
  · obtain ⟨r1, r2, r3, r4⟩ := hR.2 i hi
    refine ⟨by rw [upd_n (by omega)]; exact r1, by rw [upd_n (by omega)]; exact r2, by rw [upd_n (by omega)]; exact r3, ?_⟩
    by_cases e : i = j
    · subst e; rw [upd_s, upd_s]
    · rw [upd_n e, upd_n (by omega)]; exact r4
theorem WR_upk {nc : Nat} {kd rm ch lk : Nat → Int32} (hW : WR nc kd rm ch lk) {j : Nat} (hj : j < nc) (v : Int32) : (0 ≤ v.toInt → v.toInt ≤ 3 → WR nc (upd kd j v) rm ch lk) ∧ (1 ≤ v.toInt → v.toInt ≤ 99 → (ch j).toInt ≤ v.toInt → WR nc kd (upd rm j v) ch lk) ∧ (0 ≤ v.toInt → v.toInt ≤ 9 → WR nc kd rm ch (upd lk j v)) := by
  refine ⟨fun g1 g2 => ⟨hW.1, fun i hi => ?_⟩, fun g1 g2 g3 => ⟨hW.1, fun i hi => ?_⟩, fun g1 g2 => ⟨hW.1, fun i hi => ?_⟩⟩
  all_goals obtain ⟨w1, w2, w3, w4, w5, w6, w7, w8⟩ := hW.2 i hi
  all_goals by_cases e : i = j
  · subst e; rw [upd_s]; exact ⟨g1, g2, w3, w4, w5, w6, w7, w8⟩
  · rw [upd_n e]; exact ⟨w1, w2, w3, w4, w5, w6, w7, w8⟩
  · subst e; rw [upd_s]; exact ⟨w1, w2, g1, g2, w5, g3, w7, w8⟩
  · rw [upd_n e]; exact ⟨w1, w2, w3, w4, w5, w6, w7, w8⟩
  · subst e; rw [upd_s]; exact ⟨w1, w2, w3, w4, w5, w6, g1, g2⟩
  · rw [upd_n e]; exact ⟨w1, w2, w3, w4, w5, w6, w7, w8⟩
/-- a number of a cell changes on both sides -/
theorem MR_up {nc ns hr : Nat} {kd rm ch lk pl m kd' rm' ch' lk' : Nat → Int32} (h : MR nc ns hr kd rm ch lk pl m) {k : Nat} (hk : k < 20) {v : Int32} (hW : WR nc kd' rm' ch' lk') (hA : RA nc kd' rm' ch' lk' (upd m k v)) : MR nc ns hr kd' rm' ch' lk' pl (upd m k v) := by
  obtain ⟨-, hP, ⟨-, r2, r3, r4⟩, hh⟩ := h
  have := hP.1
  exact ⟨hW, hP, ⟨hA, by rw [upd_n (by omega)]; exact r2, fun i hi => by rw [upd_n (by omega)]; exact r3 i hi, by rw [upd_n (by omega)]; exact r4⟩, hh⟩
theorem CReal_up {st wa dn : Int32} {m : Nat → Int32} (h : CReal st wa dn m) {k : Nat} (hk : k < 39) (v : Int32) : CReal st wa dn (upd m k v) := by
  obtain ⟨a, b, c, d⟩ := h
  exact ⟨by rw [upd_n (by omega)]; exact a, by rw [upd_n (by omega)]; exact b, by rw [upd_n (by omega)]; exact c, d⟩
