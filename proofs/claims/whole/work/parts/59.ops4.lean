theorem ob13_s {A1 A2 A3 A4 A5 A6 A7 A8 A9 A10 A11 A12 A13 B : Type} {a1 : A1} {a2 : A2 × A3 × A4 × A5 × A6 × A7 × A8 × A9 × A10 × A11 × A12 × A13} {x : Option (A1 × A2 × A3 × A4 × A5 × A6 × A7 × A8 × A9 × A10 × A11 × A12 × A13)} {k : A1 → A2 → A3 → A4 → A5 → A6 → A7 → A8 → A9 → A10 → A11 → A12 → A13 → Option B} (h : x = some (a1, a2)) : ob13 x k = k a1 a2.1 a2.2.1 a2.2.2.1 a2.2.2.2.1 a2.2.2.2.2.1 a2.2.2.2.2.2.1 a2.2.2.2.2.2.2.1 a2.2.2.2.2.2.2.2.1 a2.2.2.2.2.2.2.2.2.1 a2.2.2.2.2.2.2.2.2.2.1 a2.2.2.2.2.2.2.2.2.2.2.1 a2.2.2.2.2.2.2.2.2.2.2.2 := by rw [h]; rfl
theorem p6_doneIn {v br dm sm wm is D a b c : Int32} {m m' : Nat → Int32} (h : f_X6_hoursGo v br dm sm wm is m = some (D, a, b, c, m')) : f_X6_doneIn v br dm sm wm is m = some (D, D, a, b, c, m') := by
  unfold f_X6_doneIn
  rw [ob5_s h]
theorem p6_judged {bc bm v : Int32} (h : 0 ≤ bc.toInt) : f_X6_judged v bc bm = some (if v = 0 then bc else bm) := by
  unfold f_X6_judged
  have hn : ¬ bc = (-4) := fun e => by rw [e] at h; have : (-4 : Int32).toInt = -4 := rfl; omega
  rw [if_neg hn]
  split <;> rfl
theorem nI_nn {n : Nat} (h : n < 2 ^ 31) : 0 ≤ (nI n).toInt := by rw [nI_toInt h]; omega
theorem p6_bo0 {j : Nat} (hj : j < 5) (v : Int32) (m : Nat → Int32) : f_X6_becomesOf (nI j) 0 v m = some (upd m (4 * j) v) := p6_bo (k := 0) hj (by decide) v m
theorem p6_bo1 {j : Nat} (hj : j < 5) (v : Int32) (m : Nat → Int32) : f_X6_becomesOf (nI j) 1 v m = some (upd m (4 * j + 1) v) := p6_bo (k := 1) hj (by decide) v m
theorem kind_loop {nc ns hr : Nat} {kd rm ch lk pl mSt : Nat → Int32} (h : MR nc ns hr kd rm ch lk pl mSt) (st wa dn : Int32) {j n : Nat} (hj : j < nc) (hn : n ≤ 200) (v3 : Int32) : ∀ (d i f f' : Nat) (best most bc bm br dm sm wm is : Int32) (tCells tSigns tHour tStops tWaste tDone tBridged : Int32) (tKind tRoom tCharge tLeak tPlan : Nat → Int32) (mNow : Nat → Int32), i + d = 4 → d < f → d < f' → most = bm → ((i = 0 ∧ bm = (-1) ∧ bc = (-4)) ∨ (best = bc ∧ 0 ≤ bc.toInt)) → ∃ r o o', f_X5_kind_33 (nI j) (nI n) v3 (nI nc) (nI ns) (nI hr) st wa dn kd rm ch lk pl f best most (nI i) tCells tSigns tHour tStops tWaste tDone tBridged tKind tRoom tCharge tLeak tPlan = some (r, o) ∧ f_X6_bestOf_8 (nI j) 0 3 (nI n) v3 mSt f' (nI i) br dm sm wm is bc bm mNow = some (r, o') := by
  have hc := h.1.1
  intro d
  induction d with
  | zero =>
    intro i f f' best most bc bm br dm sm wm is tCells tSigns tHour tStops tWaste tDone tBridged tKind tRoom tCharge tLeak tPlan mNow h1 h2 h3 h4 h5
    obtain ⟨f, rfl⟩ : ∃ m, f = m + 1 := ⟨f - 1, by omega⟩
    obtain ⟨f', rfl⟩ : ∃ m, f' = m + 1 := ⟨f' - 1, by omega⟩
    have hi : i = 4 := by omega
    subst hi
    rcases h5 with ⟨h, -⟩ | ⟨h5, h6⟩
    · omega
    · rw [f_X5_kind_33, f_X6_bestOf_8, if_pos (show (4 : Int32) ≤ nI 4 by decide), if_pos (show (3 : Int32) < nI 4 by decide), ob1_s (p6_judged h6), h4, h5]
      split <;> exact ⟨_, _, _, rfl, rfl⟩
  | succ d ih =>
    intro i f f' best most bc bm br dm sm wm is tCells tSigns tHour tStops tWaste tDone tBridged tKind tRoom tCharge tLeak tPlan mNow h1 h2 h3 h4 h5
    obtain ⟨f, rfl⟩ : ∃ m, f = m + 1 := ⟨f - 1, by omega⟩
    obtain ⟨f', rfl⟩ : ∃ m, f' = m + 1 := ⟨f' - 1, by omega⟩
    obtain ⟨m1, e1, e2⟩ := p6_starts br dm sm wm mSt mNow
    have hM := MR_start h tKind tRoom tCharge tLeak tPlan e2
    have hv := nI_toInt (show i < 2 ^ 31 by omega)
    have hM2 := MR_up hM (k := 4 * j) (by omega) ((WR_upk hM.1 hj (nI i)).1 (by omega) (by omega)) (RA_upk hM.2.2.1.1 hc hj (nI i)).1
    obtain ⟨D, st', wa', is', ch', m2, g1, g2, g3, g4, g5, g6⟩ := trial_hours hM2 (-4) hn is
    subst h4
    rw [f_X5_kind_33, f_X6_bestOf_8, if_neg (show ¬ (4 : Int32) ≤ nI i from nI_ge (a := i) (b := 4) (by omega) (by decide)), if_neg (show ¬ (3 : Int32) < nI i from nI_nlt (a := 3) (b := i) (by omega) (by decide)), ob12_s (p5_start ..), ck_nI (by omega) (by decide), nI_clamp (by omega), ob6_s g1, ob5_s e1, ob1_s (p6_bo0 (by omega) (nI i) m1), ob6_s (p6_doneIn g2)]
    unfold f_X6_judges
    by_cases c : D ≤ most
    · rw [if_pos c, if_pos c, nI_1]
      refine ih (i + 1) f f' best most bc most _ _ _ _ _ _ _ _ _ _ _ _ _ _ _ _ _ _ (by omega) (by omega) (by omega) rfl ?_
      rcases h5 with ⟨-, h5, -⟩ | h5
      · have := i_le.mp c
        rw [h5] at this
        have : (-1 : Int32).toInt = -1 := rfl
        omega
      · exact Or.inr h5
    · rw [if_neg c, if_neg c, nI_1]
      exact ih (i + 1) f f' (nI i) D (nI i) D _ _ _ _ _ _ _ _ _ _ _ _ _ _ _ _ _ _ (by omega) (by omega) (by omega) rfl (Or.inr ⟨rfl, nI_nn (by omega)⟩)
theorem ob9_s {A1 A2 A3 A4 A5 A6 A7 A8 A9 B : Type} {a1 : A1} {a2 : A2 × A3 × A4 × A5 × A6 × A7 × A8 × A9} {x : Option (A1 × A2 × A3 × A4 × A5 × A6 × A7 × A8 × A9)} {k : A1 → A2 → A3 → A4 → A5 → A6 → A7 → A8 → A9 → Option B} (h : x = some (a1, a2)) : ob9 x k = k a1 a2.1 a2.2.1 a2.2.2.1 a2.2.2.2.1 a2.2.2.2.2.1 a2.2.2.2.2.2.1 a2.2.2.2.2.2.2.1 a2.2.2.2.2.2.2.2 := by rw [h]; rfl
theorem op_kind {nc ns hr : Nat} {kd rm ch lk pl mSt : Nat → Int32} (h : MR nc ns hr kd rm ch lk pl mSt) (st wa dn : Int32) (v1 v2 v3 bc bm : Int32) (br dm sm wm is : Int32) (mNow : Nat → Int32) (tCells tSigns tHour tStops tWaste tDone tBridged : Int32) (tKind tRoom tCharge tLeak tPlan : Nat → Int32) : ∃ r o o', f_X5_kind v1 v2 v3 (nI nc) (nI ns) (nI hr) st wa dn kd rm ch lk pl tCells tSigns tHour tStops tWaste tDone tBridged tKind tRoom tCharge tLeak tPlan = some (r, o) ∧ f_X6_kind v1 v2 v3 br dm sm wm is bc bm mSt mNow = some (r, o') := by
  have hc := h.1.1
  have hA := h.2.2.1.1
  unfold f_X5_kind f_X6_kind
  by_cases c0 : In 0 ((nc : Int) - 1) v1
  · rw [ob1_s (p5_cell_t (by omega) c0), ob1_s (p6_unit_t hA.1 (by omega) c0), i10, i10]
    obtain ⟨j, hj, rfl⟩ := In_cell (by omega) c0
    by_cases c1 : In 0 200 v2
    · rw [ob1_s (p5_far_t c1), ob1_s (p6_far_t c1), i10, i10]
      obtain ⟨n, n1, n2, rfl⟩ := In_nat c1
      by_cases c2 : In 0 1 v3
      · rw [ob1_s (p5_half_t c2), ob1_s (p6_part_t c2), i10, i10]
        obtain ⟨r, o, o', e1, e2⟩ := kind_loop h st wa dn hj (n := n) (by omega) v3 4 0 1000 1000 0 (-1) (-4) (-1) br dm sm wm is tCells tSigns tHour tStops tWaste tDone tBridged tKind tRoom tCharge tLeak tPlan mNow (by omega) (by omega) (by omega) rfl (Or.inl ⟨rfl, rfl, rfl⟩)
        unfold f_X6_bestOf f_X6_startsJudging
        refine ⟨r, o, o', e1, ?_⟩
        rw [ob2_s rfl]
        exact (ob9_s (a1 := r) (a2 := o') e2).trans rfl
      · rw [ob1_s (p5_half_f c2), ob1_s (p6_part_f c2), i00, i00]
        exact ⟨_, _, _, rfl, rfl⟩
    · rw [ob1_s (p5_far_f c1), ob1_s (p6_far_f c1), i00, i00]
      exact ⟨_, _, _, rfl, rfl⟩
  · rw [ob1_s (p5_cell_f (by omega) c0), ob1_s (p6_unit_f hA.1 (by omega) c0), i00, i00]
    exact ⟨_, _, _, rfl, rfl⟩
theorem begin_loop {nc ns hr : Nat} {kd rm ch lk pl mSt : Nat → Int32} (h : MR nc ns hr kd rm ch lk pl mSt) (st wa dn : Int32) {j n R : Nat} (hj : j < nc) (hR : rm j = nI R) (hR9 : R ≤ 99) (hn : n ≤ 200) (v3 : Int32) : ∀ (d i f f' : Nat) (best most bc bm br dm sm wm is : Int32) (tCells tSigns tHour tStops tWaste tDone tBridged : Int32) (tKind tRoom tCharge tLeak tPlan : Nat → Int32) (mNow : Nat → Int32), i + d = R + 1 → d < f → d < f' → most = bm → ((i = 0 ∧ bm = (-1) ∧ bc = (-4)) ∨ (best = bc ∧ 0 ≤ bc.toInt)) → ∃ r o o', f_X5_begin_33 (nI j) (nI n) v3 (nI nc) (nI ns) (nI hr) st wa dn kd rm ch lk pl f best most (nI i) tCells tSigns tHour tStops tWaste tDone tBridged tKind tRoom tCharge tLeak tPlan = some (r, o) ∧ f_X6_bestOf_8 (nI j) 2 (nI R) (nI n) v3 mSt f' (nI i) br dm sm wm is bc bm mNow = some (r, o') := by
  have hc := h.1.1
  intro d
  induction d with
  | zero =>
    intro i f f' best most bc bm br dm sm wm is tCells tSigns tHour tStops tWaste tDone tBridged tKind tRoom tCharge tLeak tPlan mNow h1 h2 h3 h4 h5
    obtain ⟨f, rfl⟩ : ∃ m, f = m + 1 := ⟨f - 1, by omega⟩
    obtain ⟨f', rfl⟩ : ∃ m, f' = m + 1 := ⟨f' - 1, by omega⟩
    rcases h5 with ⟨h, -⟩ | ⟨h5, h6⟩
    · omega
    · rw [f_X5_begin_33, f_X6_bestOf_8, ck_nI (by omega) (by decide), nI_clamp (by omega), hR, if_pos (nI_lt (by omega) (by omega)), if_pos (nI_lt (by omega) (by omega)), ob1_s (p6_judged h6), h4, h5]
      split <;> exact ⟨_, _, _, rfl, rfl⟩
  | succ d ih =>
    intro i f f' best most bc bm br dm sm wm is tCells tSigns tHour tStops tWaste tDone tBridged tKind tRoom tCharge tLeak tPlan mNow h1 h2 h3 h4 h5
    obtain ⟨f, rfl⟩ : ∃ m, f = m + 1 := ⟨f - 1, by omega⟩
    obtain ⟨f', rfl⟩ : ∃ m, f' = m + 1 := ⟨f' - 1, by omega⟩
    obtain ⟨m1, e1, e2⟩ := p6_starts br dm sm wm mSt mNow
    have hM := MR_start h tKind tRoom tCharge tLeak tPlan e2
    have hv := nI_toInt (show i < 2 ^ 31 by omega)
    have hvR := nI_toInt (show R < 2 ^ 31 by omega)
    have hM2 := MR_up hM (k := 4 * j + 2) (by omega) (WR_upd hM.1 hj (nI i) (by omega) (by rw [c5_i _ _ (by omega), hR]; omega)) (RA_upd hM.2.2.1.1 hc hj (nI i))
    obtain ⟨D, st', wa', is', ch', m2, g1, g2, g3, g4, g5, g6⟩ := trial_hours hM2 (-4) hn is
    subst h4
    rw [f_X5_begin_33, f_X6_bestOf_8, ck_nI (by omega) (by decide), nI_clamp (by omega), hR, if_neg (nI_nlt (by omega) (by omega)), if_neg (nI_nlt (by omega) (by omega)), ob12_s (p5_start ..), ck_nI (by omega) (by decide), ob6_s g1, ob5_s e1, ob1_s (p6_bo2 (by omega) (nI i) m1), ob6_s (p6_doneIn g2)]
    unfold f_X6_judges
    by_cases c : D ≤ most
    · rw [if_pos c, if_pos c, nI_1]
      refine ih (i + 1) f f' best most bc most _ _ _ _ _ _ _ _ _ _ _ _ _ _ _ _ _ _ (by omega) (by omega) (by omega) rfl ?_
      rcases h5 with ⟨-, h5, -⟩ | h5
      · have := i_le.mp c
        rw [h5] at this
        have : (-1 : Int32).toInt = -1 := rfl
        omega
      · exact Or.inr h5
    · rw [if_neg c, if_neg c, nI_1]
      exact ih (i + 1) f f' (nI i) D (nI i) D _ _ _ _ _ _ _ _ _ _ _ _ _ _ _ _ _ _ (by omega) (by omega) (by omega) rfl (Or.inr ⟨rfl, nI_nn (by omega)⟩)
theorem In_of {x : Int32} {a : Int} (h0 : 0 ≤ x.toInt) (h : x.toInt ≤ a) : ∃ n : Nat, (n : Int) ≤ a ∧ n < 2 ^ 31 ∧ x = nI n := In_nat ⟨h0, h⟩
theorem op_begin {nc ns hr : Nat} {kd rm ch lk pl mSt : Nat → Int32} (h : MR nc ns hr kd rm ch lk pl mSt) (st wa dn : Int32) (v1 v2 v3 bc bm : Int32) (br dm sm wm is : Int32) (mNow : Nat → Int32) (tCells tSigns tHour tStops tWaste tDone tBridged : Int32) (tKind tRoom tCharge tLeak tPlan : Nat → Int32) : ∃ r o o', f_X5_begin v1 v2 v3 (nI nc) (nI ns) (nI hr) st wa dn kd rm ch lk pl tCells tSigns tHour tStops tWaste tDone tBridged tKind tRoom tCharge tLeak tPlan = some (r, o) ∧ f_X6_begin v1 v2 v3 br dm sm wm is bc bm mSt mNow = some (r, o') := by
  have hc := h.1.1
  have hA := h.2.2.1.1
  unfold f_X5_begin f_X6_begin
  by_cases c0 : In 0 ((nc : Int) - 1) v1
  · rw [ob1_s (p5_cell_t (by omega) c0), ob1_s (p6_unit_t hA.1 (by omega) c0), i10, i10]
    obtain ⟨j, hj, rfl⟩ := In_cell (by omega) c0
    by_cases c1 : In 0 200 v2
    · rw [ob1_s (p5_far_t c1), ob1_s (p6_far_t c1), i10, i10]
      obtain ⟨n, n1, n2, rfl⟩ := In_nat c1
      by_cases c2 : In 0 1 v3
      · rw [ob1_s (p5_half_t c2), ob1_s (p6_part_t c2), i10, i10]
        obtain ⟨w1, w2, w3, w4, -⟩ := h.1.2 j hj
        obtain ⟨R, hR9, -, hR⟩ := In_of (x := rm j) (a := 99) (by omega) w4
        obtain ⟨r, o, o', e1, e2⟩ := begin_loop h st wa dn hj hR (by omega) (n := n) (by omega) v3 (R + 1) 0 1000 1000 0 (-1) (-4) (-1) br dm sm wm is tCells tSigns tHour tStops tWaste tDone tBridged tKind tRoom tCharge tLeak tPlan mNow (by omega) (by omega) (by omega) rfl (Or.inl ⟨rfl, rfl, rfl⟩)
        rw [show (1 : Int32) = nI 1 from rfl, p6_ix, ck_nI (by omega) (by decide), nI_clamp (by omega), ← (hA.2 j hj).2.1, hR]
        unfold f_X6_bestOf f_X6_startsJudging
        refine ⟨r, o, o', e1, ?_⟩
        rw [ob2_s rfl]
        exact (ob9_s (a1 := r) (a2 := o') e2).trans rfl
      · rw [ob1_s (p5_half_f c2), ob1_s (p6_part_f c2), i00, i00]
        exact ⟨_, _, _, rfl, rfl⟩
    · rw [ob1_s (p5_far_f c1), ob1_s (p6_far_f c1), i00, i00]
      exact ⟨_, _, _, rfl, rfl⟩
  · rw [ob1_s (p5_cell_f (by omega) c0), ob1_s (p6_unit_f hA.1 (by omega) c0), i00, i00]
    exact ⟨_, _, _, rfl, rfl⟩
theorem bridge_loop {nc ns hr : Nat} {kd rm ch lk pl mSt : Nat → Int32} (h : MR nc ns hr kd rm ch lk pl mSt) (st wa dn : Int32) {n : Nat} (hn : n ≤ 200) (v2 : Int32) : ∀ (d i f f' : Nat) (best most br dm sm wm is : Int32) (tCells tSigns tHour tStops tWaste tDone tBridged : Int32) (tKind tRoom tCharge tLeak tPlan : Nat → Int32) (mNow : Nat → Int32), i + d = nc → d < f → d < f' → ∃ r o o', f_X5_bridge_29 (nI n) v2 (nI nc) (nI ns) (nI hr) st wa dn kd rm ch lk pl f best most (nI i) tCells tSigns tHour tStops tWaste tDone tBridged tKind tRoom tCharge tLeak tPlan = some (r, o) ∧ f_X6_bridge_31 (nI n) v2 mSt f' (nI i) br dm sm wm is best most mNow = some (r, o') := by
  have hc := h.1.1
  have hA := h.2.2.1.1
  intro d
  induction d with
  | zero =>
    intro i f f' best most br dm sm wm is tCells tSigns tHour tStops tWaste tDone tBridged tKind tRoom tCharge tLeak tPlan mNow h1 h2 h3
    obtain ⟨f, rfl⟩ : ∃ m, f = m + 1 := ⟨f - 1, by omega⟩
    obtain ⟨f', rfl⟩ : ∃ m, f' = m + 1 := ⟨f' - 1, by omega⟩
    rw [f_X5_bridge_29, f_X6_bridge_31, show (20 : Int32) = nI 20 from rfl, ck_nI (by decide) (by decide), nI_clamp (by decide), hA.1, if_pos (nI_le (by omega) (by omega)), if_pos (nI_le (by omega) (by omega))]
    unfold f_X6_judged
    by_cases c : best = (-4)
    · rw [if_pos c, if_pos c]; exact ⟨_, _, _, rfl, rfl⟩
    · rw [if_neg c, if_neg c]
      by_cases c2 : v2 = 0
      · rw [if_pos c2, if_pos c2]; exact ⟨_, _, _, rfl, rfl⟩
      · rw [if_neg c2, if_neg c2]; exact ⟨_, _, _, rfl, rfl⟩
  | succ d ih =>
    intro i f f' best most br dm sm wm is tCells tSigns tHour tStops tWaste tDone tBridged tKind tRoom tCharge tLeak tPlan mNow h1 h2 h3
    obtain ⟨f, rfl⟩ : ∃ m, f = m + 1 := ⟨f - 1, by omega⟩
    obtain ⟨f', rfl⟩ : ∃ m, f' = m + 1 := ⟨f' - 1, by omega⟩
    obtain ⟨m1, e1, e2⟩ := p6_starts br dm sm wm mSt mNow
    have hM := MR_start h tKind tRoom tCharge tLeak tPlan e2
    obtain ⟨D, st', wa', is', ch', m2, g1, g2, g3, g4, g5, g6⟩ := trial_hours hM (nI i) hn is
    rw [f_X5_bridge_29, f_X6_bridge_31, show (20 : Int32) = nI 20 from rfl, ck_nI (by decide) (by decide), nI_clamp (by decide), hA.1, if_neg (nI_ge (by omega) (by omega)), if_neg (nI_ge (by omega) (by omega)), ob12_s (p5_start ..), ob6_s g1, ob5_s e1, ob6_s (p6_doneIn g2)]
    unfold f_X6_judges
    by_cases c : D ≤ most
    · rw [if_pos c, if_pos c, nI_1]
      exact ih (i + 1) f f' best most _ _ _ _ _ _ _ _ _ _ _ _ _ _ _ _ _ _ (by omega) (by omega) (by omega)
    · rw [if_neg c, if_neg c, nI_1]
      exact ih (i + 1) f f' (nI i) D _ _ _ _ _ _ _ _ _ _ _ _ _ _ _ _ _ _ (by omega) (by omega) (by omega)
theorem as_is {nc ns hr : Nat} {kd rm ch lk pl mSt : Nat → Int32} (h : MR nc ns hr kd rm ch lk pl mSt) (st wa dn : Int32) {n : Nat} (hn : n ≤ 200) (br dm sm wm is : Int32) (mNow : Nat → Int32) (tCells tSigns tHour tStops tWaste tDone tBridged : Int32) (tKind tRoom tCharge tLeak tPlan : Nat → Int32) : ∃ (D : Int32) (o : Int32 × Int32 × Int32 × Int32 × Int32 × Int32 × Int32 × (Nat → Int32) × (Nat → Int32) × (Nat → Int32) × (Nat → Int32) × (Nat → Int32)) (m1 : Nat → Int32) (a b c : Int32) (m2 : Nat → Int32), f_X5_doneAsItIs (nI n) (nI nc) (nI ns) (nI hr) st wa dn kd rm ch lk pl tCells tSigns tHour tStops tWaste tDone tBridged tKind tRoom tCharge tLeak tPlan = some (D, o) ∧ f_X6_starts br dm sm wm mSt mNow = some ((-4), 0, 0, 0, m1) ∧ f_X6_doneIn (nI n) (-4) 0 0 0 is m1 = some (D, D, a, b, c, m2) ∧ (∀ k, k < 61 → m1 k = mSt k) := by
  obtain ⟨m1, e1, e2⟩ := p6_starts br dm sm wm mSt mNow
  have hM := MR_start h tKind tRoom tCharge tLeak tPlan e2
  obtain ⟨D, st', wa', is', ch', m2, g1, g2, g3, g4, g5, g6⟩ := trial_hours hM (-4) hn is
  have key : f_X5_doneAsItIs (nI n) (nI nc) (nI ns) (nI hr) st wa dn kd rm ch lk pl tCells tSigns tHour tStops tWaste tDone tBridged tKind tRoom tCharge tLeak tPlan = some (D, nI nc, nI ns, nI (hr + n), st', wa', D, (-4), c5 kd tKind, c5 rm tRoom, ch', c5 lk tLeak, c16 pl tPlan) := by
    unfold f_X5_doneAsItIs
    rw [ob12_s (p5_start ..), ob6_s g1]
  exact ⟨D, _, m1, _, _, _, _, key, e1, p6_doneIn g2, e2⟩
theorem op_bridge {nc ns hr : Nat} {kd rm ch lk pl mSt : Nat → Int32} (h : MR nc ns hr kd rm ch lk pl mSt) (st wa dn : Int32) (v1 v2 bc bm : Int32) (br dm sm wm is : Int32) (mNow : Nat → Int32) (tCells tSigns tHour tStops tWaste tDone tBridged : Int32) (tKind tRoom tCharge tLeak tPlan : Nat → Int32) : ∃ r o o', f_X5_bridge v1 v2 (nI nc) (nI ns) (nI hr) st wa dn kd rm ch lk pl tCells tSigns tHour tStops tWaste tDone tBridged tKind tRoom tCharge tLeak tPlan = some (r, o) ∧ f_X6_bridge v1 v2 br dm sm wm is bc bm mSt mNow = some (r, o') := by
  have hc := h.1.1
  unfold f_X5_bridge f_X6_bridge
  by_cases c1 : In 0 200 v1
  · rw [ob1_s (p5_far_t c1), ob1_s (p6_far_t c1), i10, i10]
    obtain ⟨n, n1, n2, rfl⟩ := In_nat c1
    by_cases c2 : In 0 1 v2
    · rw [ob1_s (p5_half_t c2), ob1_s (p6_part_t c2), i10, i10]
      obtain ⟨D, o, m1, a, b, c, m2, e1, e2, e3, e4⟩ := as_is h st wa dn (n := n) (by omega) br dm sm wm is mNow tCells tSigns tHour tStops tWaste tDone tBridged tKind tRoom tCharge tLeak tPlan
      rw [ob13_s e1, ob5_s e2, ob6_s e3]
      unfold f_X6_startsJudging
      rw [ob2_s rfl]
      exact bridge_loop h st wa dn (n := n) (by omega) v2 nc 0 1000 1000 (-4) D _ _ _ _ _ _ _ _ _ _ _ _ _ _ _ _ _ _ (by omega) (by omega) (by omega)
    · rw [ob1_s (p5_half_f c2), ob1_s (p6_part_f c2), i00, i00]
      exact ⟨_, _, _, rfl, rfl⟩
  · rw [ob1_s (p5_far_f c1), ob1_s (p6_far_f c1), i00, i00]
    exact ⟨_, _, _, rfl, rfl⟩
