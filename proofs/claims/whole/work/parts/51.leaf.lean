theorem p6_ix (j k : Nat) : (4 * nI j) + nI k = nI (4 * j + k) := by rw [show (4 : Int32) = nI 4 from rfl, pk_mul, nI_add]
theorem p6_of0 {j : Nat} (hj : j < 5) (m : Nat → Int32) : f_X6_of (nI j) 0 m = some (m (4 * j)) := by
  unfold f_X6_of
  rw [show (0 : Int32) = nI 0 from rfl, p6_ix, ck_nI (by omega) (by decide), nI_clamp (by omega)]
  rfl
theorem p6_of1 {j : Nat} (hj : j < 5) (m : Nat → Int32) : f_X6_of (nI j) 1 m = some (m (4 * j + 1)) := by
  unfold f_X6_of
  rw [show (1 : Int32) = nI 1 from rfl, p6_ix, ck_nI (by omega) (by decide), nI_clamp (by omega)]
theorem p6_of2 {j : Nat} (hj : j < 5) (m : Nat → Int32) : f_X6_of (nI j) 2 m = some (m (4 * j + 2)) := by
  unfold f_X6_of
  rw [show (2 : Int32) = nI 2 from rfl, p6_ix, ck_nI (by omega) (by decide), nI_clamp (by omega)]
theorem p6_of3 {j : Nat} (hj : j < 5) (m : Nat → Int32) : f_X6_of (nI j) 3 m = some (m (4 * j + 3)) := by
  unfold f_X6_of
  rw [show (3 : Int32) = nI 3 from rfl, p6_ix, ck_nI (by omega) (by decide), nI_clamp (by omega)]
theorem p6_bo {j k : Nat} (hj : j < 5) (hk : k < 4) (v : Int32) (m : Nat → Int32) : f_X6_becomesOf (nI j) (nI k) v m = some (upd m (4 * j + k) v) := by
  unfold f_X6_becomesOf
  rw [p6_ix, ck_nI (by omega) (by decide), nI_clamp (by omega)]
theorem p6_bo2 {j : Nat} (hj : j < 5) (v : Int32) (m : Nat → Int32) : f_X6_becomesOf (nI j) 2 v m = some (upd m (4 * j + 2) v) := p6_bo (k := 2) hj (by decide) v m
theorem p6_lesser (a b : Int32) : f_X6_lesser a b = some (iMin a b) := by
  unfold f_X6_lesser iMin
  split <;> rfl
theorem p6_leftBy {j : Nat} (hj : j < 5) (a : Int32) (m : Nat → Int32) : f_X6_leftBy (nI j) a m = some (a - iMin a (m (4 * j + 1) - m (4 * j + 2)), upd m (4 * j + 2) (m (4 * j + 2) + iMin a (m (4 * j + 1) - m (4 * j + 2)))) := by
  unfold f_X6_leftBy
  simp only [p6_of1 hj, p6_of2 hj, ob1, p6_lesser, bd, p6_bo2 hj]
theorem p6_lackBy {j : Nat} (hj : j < 5) (a : Int32) (m : Nat → Int32) : f_X6_lackBy (nI j) a m = some (a - iMin a (m (4 * j + 2)), upd m (4 * j + 2) (m (4 * j + 2) - iMin a (m (4 * j + 2)))) := by
  unfold f_X6_lackBy
  simp only [p6_of2 hj, ob1, p6_lesser, bd, p6_bo2 hj]
theorem p6_stopsBy {j : Nat} (hj : j < 5) (cur : Int32) (m : Nat → Int32) (h0 : 0 ≤ (m (4 * j + 2)).toInt) : f_X6_stopsBy (nI j) cur m = some (zB (sCS cur (m (4 * j)) (m (4 * j + 1)) (m (4 * j + 2)))) := by
  unfold f_X6_stopsBy sCS zB
  simp only [p6_of0 hj, p6_of1 hj, p6_of2 hj, ob1]
  by_cases c0 : cur ≤ 0
  · simp only [if_pos c0]
    by_cases c1 : 0 ≤ cur
    · have e : cur = 0 := i_eq.mpr (by have := i_le.mp c0; have := i_le.mp c1; have : (0 : Int32).toInt = 0 := rfl; omega)
      subst e
      have c2 : (-(0 : Int32)) ≤ m (4 * j + 2) := i_le.mpr (by have : (-(0 : Int32)).toInt = 0 := rfl; omega)
      simp only [if_pos c2]
      split <;> rfl
    · simp only [if_neg c1]
      repeat' split
      all_goals first | rfl | contradiction
  · simp only [if_neg c0]
    repeat' split
    all_goals first | rfl | contradiction
/-- the reference's row of numbers against the class's row -/
def RA (nc : Nat) (kd rm ch lk m : Nat → Int32) : Prop := m 20 = nI nc ∧ ∀ j, j < nc → kd j = m (4 * j) ∧ rm j = m (4 * j + 1) ∧ ch j = m (4 * j + 2) ∧ lk j = m (4 * j + 3)
/-- what a row's cells keep to -/
def WR (nc : Nat) (kd rm ch lk : Nat → Int32) : Prop := nc ≤ 5 ∧ ∀ j, j < nc → 0 ≤ (kd j).toInt ∧ (kd j).toInt ≤ 3 ∧ 1 ≤ (rm j).toInt ∧ (rm j).toInt ≤ 99 ∧ 0 ≤ (ch j).toInt ∧ (ch j).toInt ≤ (rm j).toInt ∧ 0 ≤ (lk j).toInt ∧ (lk j).toInt ≤ 9
theorem p6_anyStops_loop {nc : Nat} {kd rm ch lk m : Nat → Int32} (hW : WR nc kd rm ch lk) (hR : RA nc kd rm ch lk m) (br cur : Int32) : ∀ (d i n : Nat) (b : Bool), i + d = nc → d < n → f_X6_anyStops_4 cur br m n (zB b) (nI i) = some (zB (b || sSt br cur kd rm ch d i)) := by
  have hc := hW.1
  intro d
  induction d with
  | zero =>
    intro i n b h1 h2
    obtain ⟨n, rfl⟩ : ∃ m, n = m + 1 := ⟨n - 1, by omega⟩
    rw [f_X6_anyStops_4, show (20 : Int32) = nI 20 from rfl, ck_nI (by decide) (by decide), nI_clamp (by decide), hR.1, if_pos (nI_le (by omega) (by omega))]
    rw [show sSt br cur kd rm ch 0 i = false from rfl]
    unfold cz
    cases b
    · exact if_pos (Or.inl rfl)
    · exact if_pos (Or.inr rfl)
  | succ d ih =>
    intro i n b h1 h2
    obtain ⟨n, rfl⟩ : ∃ m, n = m + 1 := ⟨n - 1, by omega⟩
    have hi : i < nc := by omega
    obtain ⟨r1, r2, r3, r4⟩ := hR.2 i hi
    obtain ⟨w1, w2, w3, w4, w5, w6, w7, w8⟩ := hW.2 i hi
    have e0 := ih (i + 1) n false (by omega) (by omega)
    have e1 := ih (i + 1) n true (by omega) (by omega)
    rw [show zB false = 0 from rfl] at e0
    rw [show zB true = 1 from rfl] at e1
    rw [f_X6_anyStops_4, show (20 : Int32) = nI 20 from rfl, ck_nI (by decide) (by decide), nI_clamp (by decide), hR.1, if_neg (nI_ge hi (by omega)), nI_1, e0, e1, ob1_s (p6_stopsBy (by omega) cur m (by rw [← r3]; exact w5)), ← r1, ← r2, ← r3]
    rw [sSt_s]
    cases b
    · rw [if_pos (show zB false = 0 from rfl)]
      by_cases hb : nI i = br
      · rw [if_pos hb, if_pos hb]
        simp
      · rw [if_neg hb, if_neg hb]
        cases sCS cur (kd i) (rm i) (ch i)
        · rw [if_pos (show zB false = 0 from rfl)]; simp
        · rw [if_neg (show ¬ zB true = 0 by decide)]; simp
    · rw [if_neg (show ¬ zB true = 0 by decide)]; simp
theorem p6_anyStops {nc : Nat} {kd rm ch lk m : Nat → Int32} (hW : WR nc kd rm ch lk) (hR : RA nc kd rm ch lk m) (br cur : Int32) : f_X6_anyStops cur br m = some (zB (sSt br cur kd rm ch nc 0)) := by
  unfold f_X6_anyStops
  have := p6_anyStops_loop hW hR br cur nc 0 1000 false (by omega) (by have := hW.1; omega)
  rw [Bool.false_or] at this
  exact this
/-- the first of least charge -/
theorem p6_least_loop {nc : Nat} {kd rm ch lk m : Nat → Int32} (hc : nc ≤ 5) (hR : RA nc kd rm ch lk m) (br : Int32) : ∀ (d i n : Nat) (f : Option Nat), i + d = nc → d < n → (match f with | none => (∀ q, q < i → nI q = br) ∧ ∃ a, i ≤ a ∧ a < nc ∧ ¬ nI a = br | some g => g < i ∧ ¬ nI g = br ∧ (∀ q, q < i → ¬ nI q = br → (ch g).toInt ≤ (ch q).toInt) ∧ ∀ q, q < g → ¬ nI q = br → (ch g).toInt < (ch q).toInt) → ∃ p, isLeast nc br ch p ∧ f_X6_extremeOne_5 0 br m n (match f with | none => (-4) | some g => nI g) (nI i) = some (nI p) := by
  intro d
  induction d with
  | zero =>
    intro i n f h1 h2 h3
    obtain ⟨n, rfl⟩ : ∃ m, n = m + 1 := ⟨n - 1, by omega⟩
    have hi : i = nc := by omega
    subst hi
    rw [f_X6_extremeOne_5, show (20 : Int32) = nI 20 from rfl, ck_nI (by decide) (by decide), nI_clamp (by decide), hR.1, if_pos (nI_le (by omega) (by omega))]
    cases f with
    | none => obtain ⟨-, a, g1, g2, -⟩ := h3; omega
    | some g => exact ⟨g, h3, rfl⟩
  | succ d ih =>
    intro i n f h1 h2 h3
    obtain ⟨n, rfl⟩ : ∃ m, n = m + 1 := ⟨n - 1, by omega⟩
    have hi : i < nc := by omega
    rw [f_X6_extremeOne_5, show (20 : Int32) = nI 20 from rfl, ck_nI (by decide) (by decide), nI_clamp (by decide), hR.1, if_neg (nI_ge hi (by omega)), nI_1]
    by_cases c1 : nI i = br
    · rw [if_pos c1]
      refine ih (i + 1) n f (by omega) (by omega) ?_
      cases f with
      | none =>
        obtain ⟨h4, a, g1, g2, g3⟩ := h3
        refine ⟨fun q hq => ?_, a, Nat.lt_of_le_of_ne g1 (fun e => g3 (by rw [← e]; exact c1)), g2, g3⟩
        rcases Nat.lt_succ_iff_lt_or_eq.mp hq with h | h
        · exact h4 q h
        · rw [h]; exact c1
      | some g =>
        obtain ⟨g1, g2, g3, g4⟩ := h3
        refine ⟨by omega, g2, fun q hq hb => ?_, g4⟩
        rcases Nat.lt_succ_iff_lt_or_eq.mp hq with h | h
        · exact g3 q h hb
        · exact absurd (by rw [h]; exact c1) hb
    · rw [if_neg c1]
      cases f with
      | none =>
        rw [if_pos rfl]
        unfold f_X6_extremeOne_67 f_X6_extremeOne_72
        rw [if_neg (show ¬ (1 : Int32) = 0 by decide), nI_1]
        obtain ⟨h4, -⟩ := h3
        refine ih (i + 1) n (some i) (by omega) (by omega) ⟨by omega, c1, fun q hq hb => ?_, fun q hq hb => absurd (h4 q hq) hb⟩
        rcases Nat.lt_succ_iff_lt_or_eq.mp hq with h | h
        · exact absurd (h4 q h) hb
        · rw [h]; exact Int.le_refl _
      | some g =>
        obtain ⟨g1, g2, g3, g4⟩ := h3
        have hn4 : ¬ nI g = (-4) := fun e => by have := i_eq.mp e; rw [nI_toInt (by omega)] at this; have : (-4 : Int32).toInt = -4 := rfl; omega
        rw [if_neg hn4, if_pos rfl, ob1_s (p6_of2 (by omega) m), ob1_s (p6_of2 (by omega) m), ← (hR.2 i hi).2.2.1, ← (hR.2 g (by omega)).2.2.1]
        unfold f_X6_extremeOne_67 f_X6_extremeOne_71 f_X6_extremeOne_72
        rw [if_neg (show ¬ (1 : Int32) = 0 by decide), if_pos rfl, nI_1]
        by_cases c2 : ch g ≤ ch i
        · rw [if_pos c2]
          have c2' := i_le.mp c2
          refine ih (i + 1) n (some g) (by omega) (by omega) ⟨by omega, g2, fun q hq hb => ?_, g4⟩
          rcases Nat.lt_succ_iff_lt_or_eq.mp hq with h | h
          · exact g3 q h hb
          · rw [h]; exact c2'
        · rw [if_neg c2]
          have c2' : ¬ (ch g).toInt ≤ (ch i).toInt := fun q => c2 (i_le.mpr q)
          refine ih (i + 1) n (some i) (by omega) (by omega) ⟨by omega, c1, fun q hq hb => ?_, fun q hq hb => ?_⟩
          · rcases Nat.lt_succ_iff_lt_or_eq.mp hq with h | h
            · have := g3 q h hb; omega
            · rw [h]; exact Int.le_refl _
          · have := g3 q hq hb; omega
theorem p6_least {nc : Nat} {kd rm ch lk m : Nat → Int32} (hc : nc ≤ 5) (hR : RA nc kd rm ch lk m) (br : Int32) {a : Nat} (ha : a < nc) (hb : ¬ nI a = br) : ∃ p, isLeast nc br ch p ∧ f_X6_extremeOne 0 br m = some (nI p) := by
  unfold f_X6_extremeOne
  exact p6_least_loop hc hR br nc 0 1000 none (by omega) (by omega) ⟨fun q h => by omega, a, Nat.zero_le _, ha, hb⟩
theorem p6_most_loop {nc : Nat} {kd rm ch lk m : Nat → Int32} (hc : nc ≤ 5) (hR : RA nc kd rm ch lk m) (br : Int32) : ∀ (d i n : Nat) (f : Option Nat), i + d = nc → d < n → (match f with | none => (∀ q, q < i → nI q = br) ∧ ∃ a, i ≤ a ∧ a < nc ∧ ¬ nI a = br | some g => g < i ∧ ¬ nI g = br ∧ (∀ q, q < i → ¬ nI q = br → (ch q).toInt ≤ (ch g).toInt) ∧ ∀ q, q < g → ¬ nI q = br → (ch q).toInt < (ch g).toInt) → ∃ p, isMost nc br ch p ∧ f_X6_extremeOne_5 1 br m n (match f with | none => (-4) | some g => nI g) (nI i) = some (nI p) := by
  intro d
  induction d with
  | zero =>
    intro i n f h1 h2 h3
    obtain ⟨n, rfl⟩ : ∃ m, n = m + 1 := ⟨n - 1, by omega⟩
    have hi : i = nc := by omega
    subst hi
    rw [f_X6_extremeOne_5, show (20 : Int32) = nI 20 from rfl, ck_nI (by decide) (by decide), nI_clamp (by decide), hR.1, if_pos (nI_le (by omega) (by omega))]
    cases f with
    | none => obtain ⟨-, a, g1, g2, -⟩ := h3; omega
    | some g => exact ⟨g, h3, rfl⟩
  | succ d ih =>
    intro i n f h1 h2 h3
    obtain ⟨n, rfl⟩ : ∃ m, n = m + 1 := ⟨n - 1, by omega⟩
    have hi : i < nc := by omega
    rw [f_X6_extremeOne_5, show (20 : Int32) = nI 20 from rfl, ck_nI (by decide) (by decide), nI_clamp (by decide), hR.1, if_neg (nI_ge hi (by omega)), nI_1]
    by_cases c1 : nI i = br
    · rw [if_pos c1]
      refine ih (i + 1) n f (by omega) (by omega) ?_
      cases f with
      | none =>
        obtain ⟨h4, a, g1, g2, g3⟩ := h3
        refine ⟨fun q hq => ?_, a, Nat.lt_of_le_of_ne g1 (fun e => g3 (by rw [← e]; exact c1)), g2, g3⟩
        rcases Nat.lt_succ_iff_lt_or_eq.mp hq with h | h
        · exact h4 q h
        · rw [h]; exact c1
      | some g =>
        obtain ⟨g1, g2, g3, g4⟩ := h3
        refine ⟨by omega, g2, fun q hq hb => ?_, g4⟩
        rcases Nat.lt_succ_iff_lt_or_eq.mp hq with h | h
        · exact g3 q h hb
        · exact absurd (by rw [h]; exact c1) hb
    · rw [if_neg c1]
      cases f with
      | none =>
        rw [if_pos rfl]
        unfold f_X6_extremeOne_67 f_X6_extremeOne_72
        rw [if_neg (show ¬ (1 : Int32) = 0 by decide), nI_1]
        obtain ⟨h4, -⟩ := h3
        refine ih (i + 1) n (some i) (by omega) (by omega) ⟨by omega, c1, fun q hq hb => ?_, fun q hq hb => absurd (h4 q hq) hb⟩
        rcases Nat.lt_succ_iff_lt_or_eq.mp hq with h | h
        · exact absurd (h4 q h) hb
        · rw [h]; exact Int.le_refl _
      | some g =>
        obtain ⟨g1, g2, g3, g4⟩ := h3
        have hn4 : ¬ nI g = (-4) := fun e => by have := i_eq.mp e; rw [nI_toInt (by omega)] at this; have : (-4 : Int32).toInt = -4 := rfl; omega
        rw [if_neg hn4, if_neg (show ¬ (1 : Int32) = 0 by decide), ob1_s (p6_of2 (by omega) m), ob1_s (p6_of2 (by omega) m), ← (hR.2 i hi).2.2.1, ← (hR.2 g (by omega)).2.2.1]
        unfold f_X6_extremeOne_67 f_X6_extremeOne_71 f_X6_extremeOne_72
        rw [if_neg (show ¬ (1 : Int32) = 0 by decide), if_pos rfl, nI_1]
        by_cases c2 : ch i ≤ ch g
        · rw [if_pos c2]
          have c2' := i_le.mp c2
          refine ih (i + 1) n (some g) (by omega) (by omega) ⟨by omega, g2, fun q hq hb => ?_, g4⟩
          rcases Nat.lt_succ_iff_lt_or_eq.mp hq with h | h
          · exact g3 q h hb
          · rw [h]; exact c2'
        · rw [if_neg c2]
          have c2' : ¬ (ch i).toInt ≤ (ch g).toInt := fun q => c2 (i_le.mpr q)
          refine ih (i + 1) n (some i) (by omega) (by omega) ⟨by omega, c1, fun q hq hb => ?_, fun q hq hb => ?_⟩
          · rcases Nat.lt_succ_iff_lt_or_eq.mp hq with h | h
            · have := g3 q h hb; omega
            · rw [h]; exact Int.le_refl _
          · have := g3 q hq hb; omega
theorem p6_most {nc : Nat} {kd rm ch lk m : Nat → Int32} (hc : nc ≤ 5) (hR : RA nc kd rm ch lk m) (br : Int32) {a : Nat} (ha : a < nc) (hb : ¬ nI a = br) : ∃ p, isMost nc br ch p ∧ f_X6_extremeOne 1 br m = some (nI p) := by
  unfold f_X6_extremeOne
  exact p6_most_loop hc hR br nc 0 1000 none (by omega) (by omega) ⟨fun q h => by omega, a, Nat.zero_le _, ha, hb⟩
