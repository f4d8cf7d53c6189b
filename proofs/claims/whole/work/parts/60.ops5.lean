/-- the class asks hour by hour and ends at the first stop, the reference goes on: both say the same -/
theorem never_loop {nc ns : Nat} {kd rm lk pl : Nat → Int32} (hP : WP ns pl) (br : Int32) {n : Nat} (hn : n ≤ 200) : ∀ (k i f f' hr : Nat) (st wa dn dm sm wm is : Int32) (ch m : Nat → Int32), i + k = n → k < f → k < f' → hr + k < 100000 → WR nc kd rm ch lk → RR nc ns hr kd rm ch lk pl m → CTry i st wa dn sm wm dm → ∃ (a : Int32) (o : Int32 × Int32 × Int32 × Int32 × (Nat → Int32)) (dm' sm' wm' is' : Int32) (m' : Nat → Int32), f_X5_trialNeverStops_2 (nI n) (nI nc) (nI ns) br kd rm lk pl f (nI i) (nI hr) st wa dn ch = some (a, o) ∧ f_X6_hoursGo_2 (nI n) br f' (nI i) dm sm wm is m = some (dm', sm', wm', is', m') ∧ ((a = 1 ∧ sm' = 0) ∨ (a = 0 ∧ ¬ sm' = 0)) := by
  have z0 : (0 : Int32).toInt = 0 := rfl
  intro k
  induction k with
  | zero =>
    intro i f f' hr st wa dn dm sm wm is ch m h1 h2 h3 h4 hW hR hC
    obtain ⟨f, rfl⟩ : ∃ m, f = m + 1 := ⟨f - 1, by omega⟩
    obtain ⟨f', rfl⟩ : ∃ m, f' = m + 1 := ⟨f' - 1, by omega⟩
    rw [f_X5_trialNeverStops_2, f_X6_hoursGo_2, if_pos (nI_le (by omega) (by omega)), if_pos (nI_le (by omega) (by omega))]
    unfold f_X5_trialNeverStops_38
    have e := hC.1
    subst e
    by_cases c : st = 0
    · rw [if_pos c]; exact ⟨_, _, _, _, _, _, _, rfl, rfl, Or.inl ⟨rfl, c⟩⟩
    · rw [if_neg c]; exact ⟨_, _, _, _, _, _, _, rfl, rfl, Or.inr ⟨rfl, c⟩⟩
  | succ k ih =>
    intro i f f' hr st wa dn dm sm wm is ch m h1 h2 h3 h4 hW hR hC
    by_cases c : st = 0
    · obtain ⟨f, rfl⟩ : ∃ m, f = m + 1 := ⟨f - 1, by omega⟩
      obtain ⟨f', rfl⟩ : ∃ m, f' = m + 1 := ⟨f' - 1, by omega⟩
      have hb := sCur_r hP hr
      obtain ⟨stp, d, st1, wa1, dn1, sm1, wm1, ch1, m1, e1, e2, -, e4, e5, e6, e7, -⟩ := hour_rel hW hR hP.1 br (sCur ns hr pl) st wa dn dm sm wm is hb.1 hb.2
      rw [f_X5_trialNeverStops_2, f_X6_hoursGo_2, if_neg (nI_ge (by omega) (by omega)), if_neg (nI_ge (by omega) (by omega)), if_pos c, ob1_s (p1_current hP.1 (by omega) pl), ob6_s e1, ob1_s (p6_currentNow hR hP.1 (by omega)), ob5_s e2, nI_1]
      exact ih (i + 1) f f' (hr + 1) st1 wa1 dn1 _ sm1 wm1 _ ch1 m1 (by omega) (by omega) (by omega) (by omega) e4 e5 (by have := e7 i (by omega) hC; exact this)
    · obtain ⟨D, st', wa', dn', sm', wm', is', ch', m', g1, g2, g3, g4, g5, g6, g7, g8⟩ := hours_loop hP br (n := n) (by omega) (k + 1) i f f' hr 0 st wa dn dm sm wm is ch m (by omega) (by omega) (by omega) (by omega) hW hR
      obtain ⟨f, rfl⟩ : ∃ m, f = m + 1 := ⟨f - 1, by omega⟩
      rw [f_X5_trialNeverStops_2, if_neg (nI_ge (by omega) (by omega)), if_neg c]
      unfold f_X5_trialNeverStops_38
      rw [if_neg c]
      refine ⟨_, _, _, _, _, _, _, rfl, g2, Or.inr ⟨rfl, fun q => ?_⟩⟩
      have a1 := g8 i (by omega) hC
      have a2 := (g6 i (by omega) hC).1
      have a3 := hC.2.2.2.1
      have a4 : ¬ st.toInt = (0 : Int32).toInt := fun e => c (i_eq.mpr e)
      rw [a2, q] at a1
      omega
theorem never_rel {nc ns hr : Nat} {kd rm ch lk pl m : Nat → Int32} (h : MR nc ns hr kd rm ch lk pl m) {n : Nat} (hn : n ≤ 200) (is : Int32) : ∃ (a : Int32) (o : Int32 × Int32 × Int32 × Int32 × (Nat → Int32)) (dm' sm' wm' is' : Int32) (m' : Nat → Int32), f_X5_trialNeverStops (nI n) (nI nc) (nI ns) (nI hr) 0 0 0 (-4) kd rm ch lk pl = some (a, o) ∧ f_X6_hoursGo (nI n) (-4) 0 0 0 is m = some (dm', sm', wm', is', m') ∧ ((a = 1 ∧ sm' = 0) ∨ (a = 0 ∧ ¬ sm' = 0)) := by
  obtain ⟨hW, hP, hR, hh⟩ := h
  exact never_loop hP (-4) hn n 0 1000 1000 hr 0 0 0 0 0 0 is ch m (by omega) (by omega) (by omega) (by omega) hW hR CTry_0
theorem ob6_p {A1 A2 A3 A4 A5 A6 B : Type} {a1 : A1} {a2 : A2 × A3 × A4 × A5 × A6} {x : Option (A1 × A2 × A3 × A4 × A5 × A6)} {k : A1 → A2 → A3 → A4 → A5 → A6 → Option B} (h : x = some (a1, a2)) : ob6 x k = k a1 a2.1 a2.2.1 a2.2.2.1 a2.2.2.2.1 a2.2.2.2.2 := by rw [h]; rfl
theorem need_loop {nc ns hr : Nat} {kd rm ch lk pl mSt : Nat → Int32} (h : MR nc ns hr kd rm ch lk pl mSt) (st wa dn : Int32) {j n Cj : Nat} (hj : j < nc) (hC : ch j = nI Cj) (hn : n ≤ 200) : ∀ (d i f f' : Nat) (br dm sm wm is : Int32) (tCells tSigns tHour tStops tWaste tDone tBridged : Int32) (tKind tRoom tCharge tLeak tPlan : Nat → Int32) (mNow : Nat → Int32), i + d = 100 → d < f → d < f' → 1 ≤ i → Cj ≤ i → ∃ r o o', f_X5_need_31 (nI j) (nI n) (nI nc) (nI ns) (nI hr) st wa dn kd rm ch lk pl f (nI i) tCells tSigns tHour tStops tWaste tDone tBridged tKind tRoom tCharge tLeak tPlan = some (r, o) ∧ f_X6_need_19 (nI j) (nI n) mSt f' (nI i) br dm sm wm is mNow = some (r, o') := by
  have hc := h.1.1
  have hA := h.2.2.1.1
  intro d
  induction d with
  | zero =>
    intro i f f' br dm sm wm is tCells tSigns tHour tStops tWaste tDone tBridged tKind tRoom tCharge tLeak tPlan mNow h1 h2 h3 h4 h5
    obtain ⟨f, rfl⟩ : ∃ m, f = m + 1 := ⟨f - 1, by omega⟩
    obtain ⟨f', rfl⟩ : ∃ m, f' = m + 1 := ⟨f' - 1, by omega⟩
    have hi : i = 100 := by omega
    subst hi
    rw [f_X5_need_31, f_X6_need_19, if_pos (show (99 : Int32) < nI 100 by decide), if_pos (show (99 : Int32) < nI 100 by decide)]
    exact ⟨_, _, _, rfl, rfl⟩
  | succ d ih =>
    intro i f f' br dm sm wm is tCells tSigns tHour tStops tWaste tDone tBridged tKind tRoom tCharge tLeak tPlan mNow h1 h2 h3 h4 h5
    obtain ⟨f, rfl⟩ : ∃ m, f = m + 1 := ⟨f - 1, by omega⟩
    obtain ⟨f', rfl⟩ : ∃ m, f' = m + 1 := ⟨f' - 1, by omega⟩
    obtain ⟨m1, e1, e2⟩ := p6_starts br dm sm wm mSt mNow
    have hM := MR_start h tKind tRoom tCharge tLeak tPlan e2
    have hv := nI_toInt (show i < 2 ^ 31 by omega)
    have hvC := nI_toInt (show Cj < 2 ^ 31 by omega)
    have hM2 := MR_up hM (k := 4 * j + 1) (by omega) ((WR_upk hM.1 hj (nI i)).2.1 (by omega) (by omega) (by rw [c5_i _ _ (by omega), hC]; omega)) (RA_upk hM.2.2.1.1 hc hj (nI i)).2.1
    obtain ⟨a, o, dm', sm', wm', is', m2, g1, g2, g3⟩ := never_rel hM2 hn is
    rw [f_X5_need_31, f_X6_need_19, if_neg (show ¬ (99 : Int32) < nI i from nI_nlt (a := 99) (b := i) (by omega) (by decide)), if_neg (show ¬ (99 : Int32) < nI i from nI_nlt (a := 99) (b := i) (by omega) (by decide)), ob12_s (p5_start ..), ck_nI (by omega) (by decide), nI_clamp (by omega), ob6_p g1, show (2 : Int32) = nI 2 from rfl, p6_ix, ck_nI (by omega) (by decide), nI_clamp (by omega), ← (hA.2 j hj).2.2.1, hC, if_neg (nI_nlt h5 (by omega)), ob5_s e1, ob1_s (p6_bo1 (by omega) (nI i) m1), ob5_s g2]
    rcases g3 with ⟨q1, q2⟩ | ⟨q1, q2⟩
    · rw [q1, i10, if_pos q2]
      exact ⟨_, _, _, rfl, rfl⟩
    · rw [q1, i00, if_neg q2, nI_1]
      exact ih (i + 1) f f' _ _ _ _ _ _ _ _ _ _ _ _ _ _ _ _ _ _ (by omega) (by omega) (by omega) (by omega) (by omega)
theorem need_skip {j n Cj : Nat} (hj : j < 5) (mSt : Nat → Int32) (hC : mSt (4 * j + 2) = nI Cj) (hC9 : Cj ≤ 99) (br dm sm wm is : Int32) (mNow : Nat → Int32) : ∀ (d i f : Nat), i + d = Cj → d < f → f_X6_need_19 (nI j) (nI n) mSt f (nI i) br dm sm wm is mNow = f_X6_need_19 (nI j) (nI n) mSt (f - d) (nI Cj) br dm sm wm is mNow := by
  intro d
  induction d with
  | zero => intro i f h1 h2; rw [show i = Cj by omega, Nat.sub_zero]
  | succ d ih =>
    intro i f h1 h2
    obtain ⟨f, rfl⟩ : ∃ m, f = m + 1 := ⟨f - 1, by omega⟩
    rw [f_X6_need_19, if_neg (show ¬ (99 : Int32) < nI i from nI_nlt (a := 99) (b := i) (by omega) (by decide)), show (2 : Int32) = nI 2 from rfl, p6_ix, ck_nI (by omega) (by decide), nI_clamp (by omega), hC, if_pos (nI_lt (by omega) (by omega)), nI_1, ih (i + 1) f (by omega) (by omega), show f + 1 - (d + 1) = f - d by omega]
theorem op_need {nc ns hr : Nat} {kd rm ch lk pl mSt : Nat → Int32} (h : MR nc ns hr kd rm ch lk pl mSt) (st wa dn : Int32) (v1 v2 : Int32) (br dm sm wm is : Int32) (mNow : Nat → Int32) (tCells tSigns tHour tStops tWaste tDone tBridged : Int32) (tKind tRoom tCharge tLeak tPlan : Nat → Int32) : ∃ r o o', f_X5_need v1 v2 (nI nc) (nI ns) (nI hr) st wa dn kd rm ch lk pl tCells tSigns tHour tStops tWaste tDone tBridged tKind tRoom tCharge tLeak tPlan = some (r, o) ∧ f_X6_need v1 v2 br dm sm wm is mSt mNow = some (r, o') := by
  have hc := h.1.1
  have hA := h.2.2.1.1
  unfold f_X5_need f_X6_need
  by_cases c0 : In 0 ((nc : Int) - 1) v1
  · rw [ob1_s (p5_cell_t (by omega) c0), ob1_s (p6_unit_t hA.1 (by omega) c0), i10, i10]
    obtain ⟨j, hj, rfl⟩ := In_cell (by omega) c0
    by_cases c1 : In 0 200 v2
    · rw [ob1_s (p5_far_t c1), ob1_s (p6_far_t c1), i10, i10, ck_nI (by omega) (by decide), nI_clamp (by omega)]
      obtain ⟨n, n1, n2, rfl⟩ := In_nat c1
      obtain ⟨w1, w2, w3, w4, w5, w6, -⟩ := h.1.2 j hj
      obtain ⟨Cj, hC9, -, hC⟩ := In_of (x := ch j) (a := 99) w5 (by omega)
      unfold bd
      dsimp only
      rw [hC]
      by_cases c2 : 1 < Cj
      · rw [if_pos (show (1 : Int32) < nI Cj from nI_lt (a := 1) (b := Cj) c2 (by omega))]
        have sk := need_skip (n := n) (show j < 5 by omega) mSt (by rw [← (hA.2 j hj).2.2.1]; exact hC) (by omega) br dm sm wm is mNow (Cj - 1) 1 1000 (by omega) (by omega)
        rw [show (1 : Int32) = nI 1 from rfl, sk]
        exact need_loop h st wa dn hj hC (n := n) (by omega) (100 - Cj) Cj 1000 _ br dm sm wm is tCells tSigns tHour tStops tWaste tDone tBridged tKind tRoom tCharge tLeak tPlan mNow (by omega) (by omega) (by omega) (by omega) (Nat.le_refl _)
      · rw [if_neg (show ¬ (1 : Int32) < nI Cj from nI_nlt (a := 1) (b := Cj) (by omega) (by omega))]
        exact need_loop h st wa dn hj hC (n := n) (by omega) 99 1 1000 1000 br dm sm wm is tCells tSigns tHour tStops tWaste tDone tBridged tKind tRoom tCharge tLeak tPlan mNow (by omega) (by omega) (by omega) (by omega) (by omega)
    · rw [ob1_s (p5_far_f c1), ob1_s (p6_far_f c1), i00, i00]
      exact ⟨_, _, _, rfl, rfl⟩
  · rw [ob1_s (p5_cell_f (by omega) c0), ob1_s (p6_unit_f hA.1 (by omega) c0), i00, i00]
    exact ⟨_, _, _, rfl, rfl⟩
