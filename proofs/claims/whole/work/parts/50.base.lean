/-! PURE PART. From here on no machine: the functions of 03.defs alone. -/
theorem ck_nI {α : Type} {j n : Nat} {X : Option α} (h : j < n) (hn : n < 2 ^ 31) : ck (nI j) n X = X := by
  unfold ck
  exact if_neg (vp_in_nI h hn)
theorem ob1_s {A B : Type} {x : Option A} {a : A} {k : A → Option B} (h : x = some a) : ob1 x k = k a := by rw [h]; rfl
theorem ob2_s {A1 A2 B : Type} {x : Option (A1 × A2)} {a : A1} {b : A2} {k : A1 → A2 → Option B} (h : x = some (a, b)) : ob2 x k = k a b := by rw [h]; rfl
theorem ob5_s {A1 A2 A3 A4 A5 B : Type} {x : Option (A1 × A2 × A3 × A4 × A5)} {a1 : A1} {a2 : A2} {a3 : A3} {a4 : A4} {a5 : A5} {k : A1 → A2 → A3 → A4 → A5 → Option B} (h : x = some (a1, a2, a3, a4, a5)) : ob5 x k = k a1 a2 a3 a4 a5 := by rw [h]; rfl
theorem ob6_s {A1 A2 A3 A4 A5 A6 B : Type} {x : Option (A1 × A2 × A3 × A4 × A5 × A6)} {a1 : A1} {a2 : A2} {a3 : A3} {a4 : A4} {a5 : A5} {a6 : A6} {k : A1 → A2 → A3 → A4 → A5 → A6 → Option B} (h : x = some (a1, a2, a3, a4, a5, a6)) : ob6 x k = k a1 a2 a3 a4 a5 a6 := by rw [h]; rfl
def zB (b : Bool) : Int32 := if b = true then 1 else 0
theorem i_le {x y : Int32} : x ≤ y ↔ x.toInt ≤ y.toInt := Int32.le_iff_toInt_le
theorem i_lt {x y : Int32} : x < y ↔ x.toInt < y.toInt := Int32.lt_iff_toInt_lt
theorem i_eq {x y : Int32} : x = y ↔ x.toInt = y.toInt := Int32.toInt_inj.symm
theorem i_rng (x : Int32) : -2147483648 ≤ x.toInt ∧ x.toInt < 2147483648 := ⟨Int32.le_toInt x, Int32.toInt_lt x⟩
theorem i_add {x y : Int32} (h : -2147483648 ≤ x.toInt + y.toInt) (h2 : x.toInt + y.toInt < 2147483648) : (x + y).toInt = x.toInt + y.toInt := by
  rw [Int32.toInt_add]
  exact Int.bmod_eq_of_le (by omega) (by omega)
theorem i_sub {x y : Int32} (h : -2147483648 ≤ x.toInt - y.toInt) (h2 : x.toInt - y.toInt < 2147483648) : (x - y).toInt = x.toInt - y.toInt := by
  rw [Int32.toInt_sub]
  exact Int.bmod_eq_of_le (by omega) (by omega)
theorem i_neg {x : Int32} (h : -2147483648 < x.toInt) : (-x).toInt = -x.toInt := by
  have := i_rng x
  rw [Int32.toInt_neg]
  exact Int.bmod_eq_of_le (by omega) (by omega)
theorem upd_s {f : Nat → Int32} {k : Nat} {x : Int32} : upd f k x k = x := if_pos rfl
theorem upd_n {f : Nat → Int32} {k j : Nat} {x : Int32} (h : ¬ j = k) : upd f k x j = f j := if_neg h
/-- a cell stops by a current -/
def sCS (cur k r c : Int32) : Bool := if cur ≤ 0 then (if 0 ≤ cur then false else if k = 3 then false else if (-cur) ≤ c then false else true) else if k = 0 then (if (c + cur) ≤ r then false else true) else false
theorem p1_cellStops {j : Nat} (hj : j < 5) (cur : Int32) (kd rm ch : Nat → Int32) : f_X1_cellStopsBy (nI j) cur kd rm ch = some (zB (sCS cur (kd j) (rm j) (ch j))) := by
  unfold f_X1_cellStopsBy sCS zB
  simp only [ck_nI hj (show 5 < 2 ^ 31 by decide), nI_clamp (show j < 2 ^ 31 by omega)]
  repeat' split
  all_goals first | rfl | contradiction
/-- from i on, d cells: does one stop? -/
def sSt (br cur : Int32) (kd rm ch : Nat → Int32) : Nat → Nat → Bool
  | 0, _ => false
  | d + 1, i => (if nI i = br then false else sCS cur (kd i) (rm i) (ch i)) || sSt br cur kd rm ch d (i + 1)
theorem sSt_s (br cur : Int32) (kd rm ch : Nat → Int32) (d i : Nat) : sSt br cur kd rm ch (d + 1) i = ((if nI i = br then false else sCS cur (kd i) (rm i) (ch i)) || sSt br cur kd rm ch d (i + 1)) := rfl
theorem p1_stops_loop {nc : Nat} (hc : nc ≤ 5) (br cur : Int32) (kd rm ch : Nat → Int32) : ∀ (d i n : Nat), i + d = nc → d < n → f_X1_stopsBy_2 cur (nI nc) br kd rm ch n (nI i) = some (zB (sSt br cur kd rm ch d i)) := by
  intro d
  induction d with
  | zero =>
    intro i n h1 h2
    obtain ⟨n, rfl⟩ : ∃ m, n = m + 1 := ⟨n - 1, by omega⟩
    rw [f_X1_stopsBy_2, if_pos (nI_le (by omega) (by omega))]
    rfl
  | succ d ih =>
    intro i n h1 h2
    obtain ⟨n, rfl⟩ : ∃ m, n = m + 1 := ⟨n - 1, by omega⟩
    have e := ih (i + 1) n (by omega) (by omega)
    rw [f_X1_stopsBy_2, if_neg (nI_ge (by omega) (by omega)), nI_1, e, ob1_s (p1_cellStops (by omega) cur kd rm ch)]
    rw [sSt_s]
    by_cases hb : nI i = br
    · rw [if_pos hb, if_pos hb, Bool.false_or]
    · rw [if_neg hb, if_neg hb]
      cases sCS cur (kd i) (rm i) (ch i)
      · rw [Bool.false_or]; rfl
      · rw [Bool.true_or]; rfl
theorem p1_stops {nc : Nat} (hc : nc ≤ 5) (br cur : Int32) (kd rm ch : Nat → Int32) : f_X1_stopsBy cur (nI nc) br kd rm ch = some (zB (sSt br cur kd rm ch nc 0)) := by
  unfold f_X1_stopsBy
  exact p1_stops_loop hc br cur kd rm ch nc 0 1000 (by omega) (by omega)
def iMin (a b : Int32) : Int32 := if b ≤ a then b else a
theorem iMin_i (a b : Int32) : (iMin a b).toInt = if b.toInt ≤ a.toInt then b.toInt else a.toInt := by
  unfold iMin
  by_cases h : b ≤ a
  · rw [if_pos h, if_pos (i_le.mp h)]
  · rw [if_neg h, if_neg (fun q => h (i_le.mpr q))]
theorem p1_put {j : Nat} (hj : j < 5) (a : Int32) (rm ch : Nat → Int32) : f_X1_put (nI j) a rm ch = some (iMin a (rm j - ch j), upd ch j (ch j + iMin a (rm j - ch j))) := by
  unfold f_X1_put f_X1_put_24 iMin bd
  simp only [ck_nI hj (show 5 < 2 ^ 31 by decide), nI_clamp (show j < 2 ^ 31 by omega)]
  split <;> rfl
theorem p1_draw {j : Nat} (hj : j < 5) (a : Int32) (ch : Nat → Int32) : f_X1_draw (nI j) a ch = some (iMin a (ch j), upd ch j (ch j - iMin a (ch j))) := by
  unfold f_X1_draw f_X1_draw_20 iMin
  simp only [ck_nI hj (show 5 < 2 ^ 31 by decide), nI_clamp (show j < 2 ^ 31 by omega)]
  split <;> rfl
def isLeast (nc : Nat) (br : Int32) (ch : Nat → Int32) (p : Nat) : Prop := p < nc ∧ ¬ nI p = br ∧ (∀ q, q < nc → ¬ nI q = br → (ch p).toInt ≤ (ch q).toInt) ∧ ∀ q, q < p → ¬ nI q = br → (ch p).toInt < (ch q).toInt
def isMost (nc : Nat) (br : Int32) (ch : Nat → Int32) (p : Nat) : Prop := p < nc ∧ ¬ nI p = br ∧ (∀ q, q < nc → ¬ nI q = br → (ch q).toInt ≤ (ch p).toInt) ∧ ∀ q, q < p → ¬ nI q = br → (ch q).toInt < (ch p).toInt
theorem isLeast_u {nc : Nat} {br : Int32} {ch : Nat → Int32} {p q : Nat} (h : isLeast nc br ch p) (g : isLeast nc br ch q) : p = q := by
  obtain ⟨h1, h2, h3, h4⟩ := h
  obtain ⟨g1, g2, g3, g4⟩ := g
  rcases Nat.lt_trichotomy p q with c | c | c
  · have := g4 p c h2; have := h3 q g1 g2; omega
  · exact c
  · have := h4 q c g2; have := g3 p h1 h2; omega
theorem isMost_u {nc : Nat} {br : Int32} {ch : Nat → Int32} {p q : Nat} (h : isMost nc br ch p) (g : isMost nc br ch q) : p = q := by
  obtain ⟨h1, h2, h3, h4⟩ := h
  obtain ⟨g1, g2, g3, g4⟩ := g
  rcases Nat.lt_trichotomy p q with c | c | c
  · have := g4 p c h2; have := h3 q g1 g2; omega
  · exact c
  · have := h4 q c g2; have := g3 p h1 h2; omega
theorem p1_poorest_loop {nc : Nat} (hc : nc ≤ 5) (br : Int32) (ch : Nat → Int32) : ∀ (i n b : Nat), i ≤ nc → i < n → b < nc → ¬ nI b = br → (∀ q, i ≤ q → q < nc → ¬ nI q = br → (ch b).toInt ≤ (ch q).toInt) → (∀ q, i ≤ q → q < b → ¬ nI q = br → (ch b).toInt < (ch q).toInt) → ∃ p, isLeast nc br ch p ∧ f_X1_poorest_9 (nI nc) br ch n (nI b) (nI i + (-1)) = some (nI p) := by
  intro i
  induction i with
  | zero =>
    intro n b h1 h2 hb hbr h3 h4
    obtain ⟨n, rfl⟩ : ∃ m, n = m + 1 := ⟨n - 1, by omega⟩
    refine ⟨b, ⟨hb, hbr, fun q h => h3 q (Nat.zero_le q) h, fun q h => h4 q (Nat.zero_le q) h⟩, ?_⟩
    rw [f_X1_poorest_9, if_pos (by decide)]
  | succ i ih =>
    intro n b h1 h2 hb hbr h3 h4
    obtain ⟨n, rfl⟩ : ∃ m, n = m + 1 := ⟨n - 1, by omega⟩
    rw [f_X1_poorest_9, pk_m1, if_neg (nI_pos (by omega))]
    by_cases c1 : nI i = br
    · rw [if_pos c1]
      exact ih n b (by omega) (by omega) hb hbr (fun q g1 g2 g3 => h3 q (Nat.lt_of_le_of_ne g1 (fun e => g3 (by rw [← e]; exact c1))) g2 g3) (fun q g1 g2 g3 => h4 q (Nat.lt_of_le_of_ne g1 (fun e => g3 (by rw [← e]; exact c1))) g2 g3)
    · rw [if_neg c1, ck_nI (by omega) (by decide), ck_nI (by omega) (by decide), nI_clamp (by omega), nI_clamp (by omega)]
      by_cases c2 : ch b < ch i
      · rw [if_pos c2]
        have c2' := i_lt.mp c2
        refine ih n b (by omega) (by omega) hb hbr (fun q g1 g2 g3 => ?_) (fun q g1 g2 g3 => ?_)
        · rcases Nat.eq_or_lt_of_le g1 with e | g
          · subst e; omega
          · exact h3 q g g2 g3
        · rcases Nat.eq_or_lt_of_le g1 with e | g
          · subst e; omega
          · exact h4 q g g2 g3
      · rw [if_neg c2]
        have c2' : ¬ (ch b).toInt < (ch i).toInt := fun q => c2 (i_lt.mpr q)
        refine ih n i (by omega) (by omega) (by omega) c1 (fun q g1 g2 g3 => ?_) (fun q g1 g2 g3 => by omega)
        rcases Nat.eq_or_lt_of_le g1 with e | g
        · subst e; omega
        · have := h3 q g g2 g3; omega
theorem p1_poorest {nc : Nat} (hc : nc ≤ 5) (br : Int32) (ch : Nat → Int32) {a : Nat} (ha : a < nc) (hb : ¬ nI a = br) : ∃ p, isLeast nc br ch p ∧ f_X1_poorest (nI a) (nI nc) br ch = some (nI p) := by
  unfold f_X1_poorest bd
  rw [show nI nc - 1 = nI nc + (-1) from Int32.sub_eq_add_neg ..]
  exact p1_poorest_loop hc br ch nc 1000 a (Nat.le_refl _) (by omega) ha hb (fun q h1 h2 => by omega) (fun q h1 h2 => by omega)
theorem p1_richest_loop {nc : Nat} (hc : nc ≤ 5) (br : Int32) (ch : Nat → Int32) : ∀ (i n b : Nat), i ≤ nc → i < n → b < nc → ¬ nI b = br → (∀ q, i ≤ q → q < nc → ¬ nI q = br → (ch q).toInt ≤ (ch b).toInt) → (∀ q, i ≤ q → q < b → ¬ nI q = br → (ch q).toInt < (ch b).toInt) → ∃ p, isMost nc br ch p ∧ f_X1_richest_9 (nI nc) br ch n (nI b) (nI i + (-1)) = some (nI p) := by
  intro i
  induction i with
  | zero =>
    intro n b h1 h2 hb hbr h3 h4
    obtain ⟨n, rfl⟩ : ∃ m, n = m + 1 := ⟨n - 1, by omega⟩
    refine ⟨b, ⟨hb, hbr, fun q h => h3 q (Nat.zero_le q) h, fun q h => h4 q (Nat.zero_le q) h⟩, ?_⟩
    rw [f_X1_richest_9, if_pos (by decide)]
  | succ i ih =>
    intro n b h1 h2 hb hbr h3 h4
    obtain ⟨n, rfl⟩ : ∃ m, n = m + 1 := ⟨n - 1, by omega⟩
    rw [f_X1_richest_9, pk_m1, if_neg (nI_pos (by omega))]
    by_cases c1 : nI i = br
    · rw [if_pos c1]
      exact ih n b (by omega) (by omega) hb hbr (fun q g1 g2 g3 => h3 q (Nat.lt_of_le_of_ne g1 (fun e => g3 (by rw [← e]; exact c1))) g2 g3) (fun q g1 g2 g3 => h4 q (Nat.lt_of_le_of_ne g1 (fun e => g3 (by rw [← e]; exact c1))) g2 g3)
    · rw [if_neg c1, ck_nI (by omega) (by decide), ck_nI (by omega) (by decide), nI_clamp (by omega), nI_clamp (by omega)]
      by_cases c2 : ch i < ch b
      · rw [if_pos c2]
        have c2' := i_lt.mp c2
        refine ih n b (by omega) (by omega) hb hbr (fun q g1 g2 g3 => ?_) (fun q g1 g2 g3 => ?_)
        · rcases Nat.eq_or_lt_of_le g1 with e | g
          · subst e; omega
          · exact h3 q g g2 g3
        · rcases Nat.eq_or_lt_of_le g1 with e | g
          · subst e; omega
          · exact h4 q g g2 g3
      · rw [if_neg c2]
        have c2' : ¬ (ch i).toInt < (ch b).toInt := fun q => c2 (i_lt.mpr q)
        refine ih n i (by omega) (by omega) (by omega) c1 (fun q g1 g2 g3 => ?_) (fun q g1 g2 g3 => by omega)
        rcases Nat.eq_or_lt_of_le g1 with e | g
        · subst e; omega
        · have := h3 q g g2 g3; omega
theorem p1_richest {nc : Nat} (hc : nc ≤ 5) (br : Int32) (ch : Nat → Int32) {a : Nat} (ha : a < nc) (hb : ¬ nI a = br) : ∃ p, isMost nc br ch p ∧ f_X1_richest (nI a) (nI nc) br ch = some (nI p) := by
  unfold f_X1_richest bd
  rw [show nI nc - 1 = nI nc + (-1) from Int32.sub_eq_add_neg ..]
  exact p1_richest_loop hc br ch nc 1000 a (Nat.le_refl _) (by omega) ha hb (fun q h1 h2 => by omega) (fun q h1 h2 => by omega)
