/-! swap -/
theorem MR_sw {nc ns hr : Nat} {kd rm ch lk pl m : Nat → Int32} (h : MR nc ns hr kd rm ch lk pl m) {i j : Nat} (hi : i < ns) (hj : j < ns) {a b : Int32} (ha : In 0 18 a) (hb : In 0 18 b) : MR nc ns hr kd rm ch lk (upd (upd pl i a) j b) (upd (upd m (21 + i) a) (21 + j) b) := by
  obtain ⟨hW, hP, ⟨hA, r2, r3, r4⟩, hh⟩ := h
  have hs := hP.1
  have hc := hW.1
  refine ⟨hW, ⟨hs, fun q hq => ?_⟩, ⟨RA_far (RA_far hA hc (by omega) _) hc (by omega) _, by rw [upd_n (by omega), upd_n (by omega)]; exact r2, fun q hq => ?_, by rw [upd_n (by omega), upd_n (by omega)]; exact r4⟩, hh⟩
  · by_cases e : q = j
    · subst e; rw [upd_s]; exact hb
    · rw [upd_n e]
      by_cases e2 : q = i
      · subst e2; rw [upd_s]; exact ha
      · rw [upd_n e2]; exact hP.2 q hq
  · by_cases e : q = j
    · subst e; rw [upd_s, upd_s]
    · rw [upd_n e, upd_n (show ¬ 21 + q = 21 + j by omega)]
      by_cases e2 : q = i
      · subst e2; rw [upd_s, upd_s]
      · rw [upd_n e2, upd_n (show ¬ 21 + q = 21 + i by omega)]; exact r3 q hq
theorem swap_in {nc ns hr : Nat} {kd rm ch lk pl mSt : Nat → Int32} (h : MR nc ns hr kd rm ch lk pl mSt) (st wa dn : Int32) {n i : Nat} (hn : n ≤ 200) (hi : i < ns) (v2 : Int32) {D0 : Int32} {X : Int32 × Int32 × Int32 × Int32 × (Nat → Int32)} (hD : f_X1_passHours (nI n) (nI nc) (nI ns) (nI hr) 0 0 0 (-4) kd rm ch lk pl = some (D0, X)) (hD0 : 0 ≤ D0.toInt) (K29 : Int32 → Int32 → Int32 → Int32 → Int32 → Int32 → Int32 → Int32 → Int32 → Int32 → (Nat → Int32) → (Nat → Int32) → (Nat → Int32) → (Nat → Int32) → (Nat → Int32) → Option (Int32 × Int32 × Int32 × Int32 × Int32 × Int32 × Int32 × Int32 × (Nat → Int32) × (Nat → Int32) × (Nat → Int32) × (Nat → Int32) × (Nat → Int32))) (K31 : Int32 → Int32 → Int32 → Int32 → Int32 → Int32 → Int32 → Int32 → (Nat → Int32) → Option (Int32 × Int32 × Int32 × Int32 × Int32 × Int32 × Int32 × Int32 × (Nat → Int32)))
    (hK : ∀ (best most br dm sm wm is : Int32) (tCells tSigns tHour tStops tWaste tDone tBridged : Int32) (tKind tRoom tCharge tLeak tPlan : Nat → Int32) (mNow : Nat → Int32), D0.toInt ≤ most.toInt → ∃ r o o', K29 best most (nI (i + 1)) tCells tSigns tHour tStops tWaste tDone tBridged tKind tRoom tCharge tLeak tPlan = some (r, o) ∧ K31 (nI (i + 1)) br dm sm wm is best most mNow = some (r, o')) : ∀ (d j f f' : Nat) (best most br dm sm wm is : Int32) (tCells tSigns tHour tStops tWaste tDone tBridged : Int32) (tKind tRoom tCharge tLeak tPlan : Nat → Int32) (mNow : Nat → Int32), j + d = ns → i < j → d < f → d < f' → D0.toInt ≤ most.toInt → ∃ r o o', f_X5_swap_47 K29 (nI n) v2 (nI i) (nI nc) (nI ns) (nI hr) st wa dn kd rm ch lk pl f best most (nI j) tCells tSigns tHour tStops tWaste tDone tBridged tKind tRoom tCharge tLeak tPlan = some (r, o) ∧ f_X6_swap_47 K31 (nI n) v2 (nI i) mSt f' (nI j) br dm sm wm is best most mNow = some (r, o') := by
  have hs := h.2.1.1
  have r2 := h.2.2.1.2.1
  have r3 := h.2.2.1.2.2.1
  intro d
  induction d with
  | zero =>
    intro j f f' best most br dm sm wm is tCells tSigns tHour tStops tWaste tDone tBridged tKind tRoom tCharge tLeak tPlan mNow h1 h2 h3 h4 h5
    obtain ⟨f, rfl⟩ : ∃ m, f = m + 1 := ⟨f - 1, by omega⟩
    obtain ⟨f', rfl⟩ : ∃ m, f' = m + 1 := ⟨f' - 1, by omega⟩
    rw [f_X5_swap_47, f_X6_swap_47, show (37 : Int32) = nI 37 from rfl, ck_nI (show 37 < 183 by decide) (by decide), nI_clamp (show 37 < 2 ^ 31 by decide), r2, if_pos (nI_le (by omega) (by omega)), if_pos (nI_le (by omega) (by omega)), nI_1]
    exact hK _ _ _ _ _ _ _ _ _ _ _ _ _ _ _ _ _ _ _ _ h5
  | succ d ih =>
    intro j f f' best most br dm sm wm is tCells tSigns tHour tStops tWaste tDone tBridged tKind tRoom tCharge tLeak tPlan mNow h1 h2 h3 h4 h5
    obtain ⟨f, rfl⟩ : ∃ m, f = m + 1 := ⟨f - 1, by omega⟩
    obtain ⟨f', rfl⟩ : ∃ m, f' = m + 1 := ⟨f' - 1, by omega⟩
    obtain ⟨m1, e1, e2⟩ := p6_starts br dm sm wm mSt mNow
    have hpi := h.2.1.2 i hi
    have hpj := h.2.1.2 j (by omega)
    rw [f_X5_swap_47, f_X6_swap_47, show (37 : Int32) = nI 37 from rfl, ck_nI (show 37 < 183 by decide) (by decide), nI_clamp (show 37 < 2 ^ 31 by decide), r2, if_neg (nI_ge (by omega) (by omega)), if_neg (nI_ge (by omega) (by omega)), ck_nI (show i < 16 by omega) (by decide), ck_nI (show j < 16 by omega) (by decide), nI_clamp (show i < 2 ^ 31 by omega), nI_clamp (show j < 2 ^ 31 by omega), ob5_s e1, show (21 : Int32) = nI 21 from rfl, nI_add, nI_add, ck_nI (show 21 + j < 183 by omega) (by decide), ck_nI (show 21 + i < 61 by omega) (by decide), ck_nI (show 21 + i < 183 by omega) (by decide), ck_nI (show 21 + j < 61 by omega) (by decide), nI_clamp (show 21 + i < 2 ^ 31 by omega), nI_clamp (show 21 + j < 2 ^ 31 by omega), ← r3 i hi, ← r3 j (by omega)]
    unfold f_X6_judges f_X5_swap_95 bd
    dsimp only
    by_cases c : pl i = pl j
    · have hm : ∀ k, k < 61 → upd (upd m1 (21 + i) (pl j)) (21 + j) (pl i) k = mSt k := fun k hk => by
        by_cases q : k = 21 + j
        · subst q; rw [upd_s, c]; exact r3 j (by omega)
        · rw [upd_n q]
          by_cases q2 : k = 21 + i
          · subst q2; rw [upd_s, ← c]; exact r3 i hi
          · rw [upd_n q2]; exact e2 k hk
      obtain ⟨D, st', wa', is', ch', m2, g1, g2, -⟩ := trial_hours (MR_st h hm) (-4) hn is
      have eD : D = D0 := by
        have q := g1.symm.trans hD
        exact (Prod.mk.inj (Option.some.inj q)).1
      subst eD
      rw [if_pos c, if_pos (i_le.mpr (by have : (-1 : Int32).toInt = -1 := rfl; omega)), ob6_s (p6_doneIn g2), if_pos (i_le.mpr h5), nI_1]
      exact ih (j + 1) f f' best most _ _ _ _ _ _ _ _ _ _ _ _ _ _ _ _ _ _ (by omega) (by omega) (by omega) (by omega) h5
    · have hM := MR_sw (MR_start h tKind tRoom tCharge tLeak tPlan e2) hi (show j < ns by omega) (a := pl j) (b := pl i) hpj hpi
      obtain ⟨D, st', wa', is', ch', m2, g1, g2, g3, g4, g5, g6⟩ := trial_hours hM (-4) hn is
      rw [if_neg c, ob6_s (p6_doneIn g2)]
      have hd : f_X5_doneWithSwapped (nI i) (nI j) (nI n) (nI nc) (nI ns) (nI hr) st wa dn kd rm ch lk pl tCells tSigns tHour tStops tWaste tDone tBridged tKind tRoom tCharge tLeak tPlan = some (D, nI nc, nI ns, nI (hr + n), st', wa', D, (-4), c5 kd tKind, c5 rm tRoom, ch', c5 lk tLeak, upd (upd (c16 pl tPlan) i (pl j)) j (pl i)) := by
        unfold f_X5_doneWithSwapped
        rw [ob12_s (p5_start ..), ck_nI (show j < 16 by omega) (by decide), ck_nI (show i < 16 by omega) (by decide), ck_nI (show i < 16 by omega) (by decide), ck_nI (show j < 16 by omega) (by decide), nI_clamp (show i < 2 ^ 31 by omega), nI_clamp (show j < 2 ^ 31 by omega), ob6_s g1]
      rw [ob13_s hd]
      by_cases c2 : D ≤ most
      · rw [if_pos c2, if_pos c2, nI_1]
        exact ih (j + 1) f f' best most _ _ _ _ _ _ _ _ _ _ _ _ _ _ _ _ _ _ (by omega) (by omega) (by omega) (by omega) h5
      · rw [if_neg c2, if_neg c2, nI_1]
        refine ih (j + 1) f f' _ D _ _ _ _ _ _ _ _ _ _ _ _ _ _ _ _ _ _ (by omega) (by omega) (by omega) (by omega) ?_
        have := i_nle.mp c2
        omega
theorem swap_out {nc ns hr : Nat} {kd rm ch lk pl mSt : Nat → Int32} (h : MR nc ns hr kd rm ch lk pl mSt) (st wa dn : Int32) {n : Nat} (hn : n ≤ 200) (v2 : Int32) {D0 : Int32} {X : Int32 × Int32 × Int32 × Int32 × (Nat → Int32)} (hD : f_X1_passHours (nI n) (nI nc) (nI ns) (nI hr) 0 0 0 (-4) kd rm ch lk pl = some (D0, X)) (hD0 : 0 ≤ D0.toInt) : ∀ (d i f f' : Nat) (best most br dm sm wm is : Int32) (tCells tSigns tHour tStops tWaste tDone tBridged : Int32) (tKind tRoom tCharge tLeak tPlan : Nat → Int32) (mNow : Nat → Int32), i + d = ns → d < f → d < f' → D0.toInt ≤ most.toInt → ∃ r o o', f_X5_swap_29 (nI n) v2 (nI nc) (nI ns) (nI hr) st wa dn kd rm ch lk pl f best most (nI i) tCells tSigns tHour tStops tWaste tDone tBridged tKind tRoom tCharge tLeak tPlan = some (r, o) ∧ f_X6_swap_31 (nI n) v2 mSt f' (nI i) br dm sm wm is best most mNow = some (r, o') := by
  have hs := h.2.1.1
  have r2 := h.2.2.1.2.1
  intro d
  induction d with
  | zero =>
    intro i f f' best most br dm sm wm is tCells tSigns tHour tStops tWaste tDone tBridged tKind tRoom tCharge tLeak tPlan mNow h1 h2 h3 h4
    obtain ⟨f, rfl⟩ : ∃ m, f = m + 1 := ⟨f - 1, by omega⟩
    obtain ⟨f', rfl⟩ : ∃ m, f' = m + 1 := ⟨f' - 1, by omega⟩
    rw [f_X5_swap_29, f_X6_swap_31, show (37 : Int32) = nI 37 from rfl, ck_nI (show 37 < 183 by decide) (by decide), nI_clamp (show 37 < 2 ^ 31 by decide), r2, if_pos (nI_le (by omega) (by omega)), if_pos (nI_le (by omega) (by omega))]
    unfold f_X6_judged
    by_cases c : best = (-4)
    · rw [if_pos c, if_pos c]; exact ⟨_, _, _, rfl, rfl⟩
    · rw [if_neg c, if_neg c]
      by_cases c2 : v2 = 0
      · rw [if_pos c2, if_pos c2]; exact ⟨_, _, _, rfl, rfl⟩
      · rw [if_neg c2, if_neg c2]; exact ⟨_, _, _, rfl, rfl⟩
  | succ d ih =>
    intro i f f' best most br dm sm wm is tCells tSigns tHour tStops tWaste tDone tBridged tKind tRoom tCharge tLeak tPlan mNow h1 h2 h3 h4
    obtain ⟨f, rfl⟩ : ∃ m, f = m + 1 := ⟨f - 1, by omega⟩
    obtain ⟨f', rfl⟩ : ∃ m, f' = m + 1 := ⟨f' - 1, by omega⟩
    rw [f_X5_swap_29, f_X6_swap_31, show (37 : Int32) = nI 37 from rfl, ck_nI (show 37 < 183 by decide) (by decide), nI_clamp (show 37 < 2 ^ 31 by decide), r2, if_neg (nI_ge (by omega) (by omega)), if_neg (nI_ge (by omega) (by omega))]
    unfold bd
    dsimp only
    rw [nI_1]
    exact swap_in h st wa dn hn (show i < ns by omega) v2 hD hD0 _ _ (fun best most br dm sm wm is a1 a2 a3 a4 a5 a6 a7 a8 a9 a10 a11 a12 mNow hh => ih (i + 1) f f' best most br dm sm wm is a1 a2 a3 a4 a5 a6 a7 a8 a9 a10 a11 a12 mNow (by omega) (by omega) (by omega) hh) (ns - (i + 1)) (i + 1) 1000 1000 best most br dm sm wm is tCells tSigns tHour tStops tWaste tDone tBridged tKind tRoom tCharge tLeak tPlan mNow (by omega) (by omega) (by omega) (by omega) h4
theorem op_swap {nc ns hr : Nat} {kd rm ch lk pl mSt : Nat → Int32} (h : MR nc ns hr kd rm ch lk pl mSt) (st wa dn : Int32) (v1 v2 bc bm : Int32) (br dm sm wm is : Int32) (mNow : Nat → Int32) (tCells tSigns tHour tStops tWaste tDone tBridged : Int32) (tKind tRoom tCharge tLeak tPlan : Nat → Int32) : ∃ r o o', f_X5_swap v1 v2 (nI nc) (nI ns) (nI hr) st wa dn kd rm ch lk pl tCells tSigns tHour tStops tWaste tDone tBridged tKind tRoom tCharge tLeak tPlan = some (r, o) ∧ f_X6_swap v1 v2 br dm sm wm is bc bm mSt mNow = some (r, o') := by
  have hs := h.2.1.1
  unfold f_X5_swap f_X6_swap
  by_cases c1 : In 0 200 v1
  · rw [ob1_s (p5_far_t c1), ob1_s (p6_far_t c1), i10, i10]
    obtain ⟨n, n1, n2, rfl⟩ := In_nat c1
    by_cases c2 : In 0 1 v2
    · rw [ob1_s (p5_half_t c2), ob1_s (p6_part_t c2), i10, i10]
      obtain ⟨D, o, m1, a, b, c, m2, e1, e2, e3, e4⟩ := as_is h st wa dn (n := n) (by omega) br dm sm wm is mNow tCells tSigns tHour tStops tWaste tDone tBridged tKind tRoom tCharge tLeak tPlan
      obtain ⟨D', st', wa', is', ch', m3, g1, g2, g3, g4, g5, g6⟩ := trial_hours (MR_st h e4) (-4) (n := n) (by omega) is
      have eD : D = D' := (Prod.mk.inj (Option.some.inj (e3.symm.trans (p6_doneIn g2)))).1
      subst eD
      rw [ob13_s e1, ob5_s e2, ob6_s e3]
      unfold f_X6_startsJudging
      rw [ob2_s rfl]
      exact swap_out h st wa dn (n := n) (by omega) v2 g1 g5 ns 0 1000 1000 (-4) D _ _ _ _ _ _ _ _ _ _ _ _ _ _ _ _ _ _ (by omega) (by omega) (by omega) (Int.le_refl _)
    · rw [ob1_s (p5_half_f c2), ob1_s (p6_part_f c2), i00, i00]
      exact ⟨_, _, _, rfl, rfl⟩
  · rw [ob1_s (p5_far_f c1), ob1_s (p6_far_f c1), i00, i00]
    exact ⟨_, _, _, rfl, rfl⟩
