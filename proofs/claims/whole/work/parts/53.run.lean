theorem cap9_small {z : Int32} (h : z.toInt ≤ 9999) : cap9 z = z := by
  refine i_eq.mpr ?_
  rw [cap9_i]
  split <;> omega
theorem nI_ne_of {a b : Nat} (ha : a < 2 ^ 31) (hb : b < 2 ^ 31) (h : ¬ a = b) : ¬ nI a = nI b := fun e => h ((nI_eq ha hb).mp e)
/-- what is done by a current that does not stop -/
def dBy (cur : Int32) (nc : Nat) : Int32 := if 0 ≤ cur then 0 else if nc = 0 then 0 else -cur
theorem p1_doneBy (cur : Int32) {nc : Nat} (hc : nc ≤ 5) : f_X1_doneBy cur (nI nc) = some (dBy cur nc) := by
  unfold f_X1_doneBy dBy
  by_cases c0 : 0 ≤ cur
  · rw [if_pos c0, if_pos c0]
  · rw [if_neg c0, if_neg c0]
    by_cases c1 : nc = 0
    · subst c1; rfl
    · rw [if_neg c1, if_neg (nI_nle (by omega) (by omega))]
theorem dBy_r (cur : Int32) (nc : Nat) (h0 : -9 ≤ cur.toInt) (h9 : cur.toInt ≤ 9) : 0 ≤ (dBy cur nc).toInt ∧ (dBy cur nc).toInt ≤ 9 := by
  have z : (0 : Int32).toInt = 0 := rfl
  unfold dBy
  by_cases c0 : 0 ≤ cur
  · rw [if_pos c0]; omega
  · rw [if_neg c0]
    have hq : ¬ (0 : Int32).toInt ≤ cur.toInt := fun q => c0 (i_le.mpr q)
    by_cases c1 : nc = 0
    · rw [if_pos c1]; omega
    · rw [if_neg c1, i_neg (by omega)]; omega
theorem go_loop {nc : Nat} {kd rm lk : Nat → Int32} (hc : nc ≤ 5) (br cur st dn dm sm is : Int32) (h0 : -9 ≤ cur.toInt) (h9 : cur.toInt ≤ 9) : ∀ (d i n n' : Nat) (wa wm : Int32) (ch m : Nat → Int32), i + d = nc → d < n → d < n' → WR nc kd rm ch lk → RA nc kd rm ch lk m → ∃ (wa' wm' : Int32) (ch' m' : Nat → Int32),
    f_X1_stoppedBySending_28 cur (nI nc) st dn br kd rm n (nI i) wa ch = some (0, st, wa', cap9 (dn + dBy cur nc), ch') ∧
    f_X6_currentGoes_51 cur br dm sm is n' (nI i) wm m = some (dm + dBy cur nc, sm, wm', is, m') ∧ WR nc kd rm ch' lk ∧ RA nc kd rm ch' lk m' ∧
    (wa = m 40 → 0 ≤ wa.toInt → wa.toInt ≤ 9999 → wa' = m' 40 ∧ 0 ≤ wa'.toInt ∧ wa'.toInt ≤ 9999) ∧
    (∀ B : Int, wa = wm → 0 ≤ wm.toInt → wm.toInt ≤ B → B + 9 * d ≤ 9999 → wa' = wm' ∧ 0 ≤ wm'.toInt ∧ wm'.toInt ≤ B + 9 * d) ∧
    ((m' 41 = m 41 ∧ dBy cur nc = 0) ∨ m' 41 = cap9 (m 41 + dBy cur nc)) ∧ ∀ k, 20 ≤ k → ¬ k = 40 → ¬ k = 41 → m' k = m k := by
  have z0 : (0 : Int32).toInt = 0 := rfl
  intro d
  induction d with
  | zero =>
    intro i n n' wa wm ch m h1 h2 h3 hW hR
    obtain ⟨n, rfl⟩ : ∃ m, n = m + 1 := ⟨n - 1, by omega⟩
    obtain ⟨n', rfl⟩ : ∃ m, n' = m + 1 := ⟨n' - 1, by omega⟩
    have hi : i = nc := by omega
    subst hi
    have ec : f_X1_stoppedBySending_28 cur (nI i) st dn br kd rm (n + 1) (nI i) wa ch = some (0, st, wa, cap9 (dn + dBy cur i), ch) := by
      rw [f_X1_stoppedBySending_28, if_pos (nI_le (Nat.le_refl _) (by omega)), ob1_s (p1_doneBy cur hc)]
      rfl
    rw [ec, f_X6_currentGoes_51, show (20 : Int32) = nI 20 from rfl, show (41 : Int32) = nI 41 from rfl]
    simp only [ck_nI (show 20 < 61 by decide) (show 61 < 2 ^ 31 by decide), ck_nI (show 41 < 61 by decide) (show 61 < 2 ^ 31 by decide), nI_clamp (show 20 < 2 ^ 31 by decide), nI_clamp (show 41 < 2 ^ 31 by decide), hR.1]
    rw [if_pos (nI_le (Nat.le_refl _) (by omega))]
    unfold dBy
    by_cases c0 : 0 ≤ cur
    · rw [if_pos c0, if_pos c0]
      exact ⟨wa, wm, ch, m, rfl, by rw [Int32.add_zero], hW, hR, fun e g1 g2 => ⟨e, g1, g2⟩, fun B e g1 g2 g3 => ⟨e, g1, by omega⟩, Or.inl ⟨rfl, rfl⟩, fun _ _ _ _ => rfl⟩
    · rw [if_neg c0, if_neg c0]
      by_cases c1 : i = 0
      · subst c1
        rw [if_pos rfl, if_pos (show nI 0 ≤ 0 by decide)]
        exact ⟨wa, wm, ch, m, rfl, by rw [Int32.add_zero], hW, hR, fun e g1 g2 => ⟨e, g1, g2⟩, fun B e g1 g2 g3 => ⟨e, g1, by omega⟩, Or.inl ⟨rfl, rfl⟩, fun _ _ _ _ => rfl⟩
      · rw [if_neg c1, if_neg (nI_nle (by omega) (by omega)), ob1_s (p6_lesser _ _), cap_iMin, Int32.sub_eq_add_neg, Int32.sub_eq_add_neg]
        exact ⟨wa, wm, ch, _, rfl, rfl, hW, RA_far hR hc (by omega) _, fun e g1 g2 => ⟨by rw [upd_n (by omega)]; exact e, g1, g2⟩, fun B e g1 g2 g3 => ⟨e, g1, by omega⟩, Or.inr upd_s, fun k _ _ g => upd_n g⟩
  | succ d ih =>
    intro i n n' wa wm ch m h1 h2 h3 hW hR
    obtain ⟨n, rfl⟩ : ∃ m, n = m + 1 := ⟨n - 1, by omega⟩
    obtain ⟨n', rfl⟩ : ∃ m, n' = m + 1 := ⟨n' - 1, by omega⟩
    have hi : i < nc := by omega
    have plain : ∃ (wa' wm' : Int32) (ch' m' : Nat → Int32),
        f_X1_stoppedBySending_28 cur (nI nc) st dn br kd rm n (nI (i + 1)) wa ch = some (0, st, wa', cap9 (dn + dBy cur nc), ch') ∧
        f_X6_currentGoes_51 cur br dm sm is n' (nI (i + 1)) wm m = some (dm + dBy cur nc, sm, wm', is, m') ∧ WR nc kd rm ch' lk ∧ RA nc kd rm ch' lk m' ∧
        (wa = m 40 → 0 ≤ wa.toInt → wa.toInt ≤ 9999 → wa' = m' 40 ∧ 0 ≤ wa'.toInt ∧ wa'.toInt ≤ 9999) ∧
        (∀ B : Int, wa = wm → 0 ≤ wm.toInt → wm.toInt ≤ B → B + 9 * ((d + 1 : Nat) : Int) ≤ 9999 → wa' = wm' ∧ 0 ≤ wm'.toInt ∧ wm'.toInt ≤ B + 9 * ((d + 1 : Nat) : Int)) ∧
        ((m' 41 = m 41 ∧ dBy cur nc = 0) ∨ m' 41 = cap9 (m 41 + dBy cur nc)) ∧ ∀ k, 20 ≤ k → ¬ k = 40 → ¬ k = 41 → m' k = m k := by
      obtain ⟨wa', wm', ch', m', e1, e2, e3, e4, e5, e6, e7, e8⟩ := ih (i + 1) n n' wa wm ch m (by omega) (by omega) (by omega) hW hR
      refine ⟨wa', wm', ch', m', e1, e2, e3, e4, e5, fun B a1 a2 a3 a4 => ?_, e7, e8⟩
      obtain ⟨q1, q2, q3⟩ := e6 B a1 a2 a3 (by omega)
      exact ⟨q1, q2, by omega⟩
    rw [f_X1_stoppedBySending_28, f_X6_currentGoes_51, if_neg (nI_ge hi (by omega)), show (20 : Int32) = nI 20 from rfl, ck_nI (show 20 < 61 by decide) (by decide), nI_clamp (show 20 < 2 ^ 31 by decide), hR.1, if_neg (nI_ge hi (by omega)), nI_1]
    unfold f_X1_stoppedBySending_57 f_X6_currentGoes_83
    rw [nI_1]
    by_cases hb : nI i = br
    · simp only [if_pos hb]
      exact plain
    · simp only [if_neg hb]
      by_cases c0 : cur ≤ 0
      · simp only [if_pos c0]
        by_cases c1 : 0 ≤ cur
        · simp only [if_pos c1]
          exact plain
        · simp only [if_neg c1]
          have hneg : ¬ (0 : Int32).toInt ≤ cur.toInt := fun q => c1 (i_le.mpr q)
          obtain ⟨ch1, m1, g1, g2, g3, g4, g5⟩ := give_rel hW hR br (-cur) hi hb (by rw [i_neg (by omega)]; omega) (by rw [i_neg (by omega)]; omega)
          rw [ob1_s g1, ob1_s g2]
          obtain ⟨wa', wm', ch', m', e1, e2, e3, e4, e5, e6, e7, e8⟩ := ih (i + 1) n n' wa wm ch1 m1 (by omega) (by omega) (by omega) g3 g4
          refine ⟨wa', wm', ch', m', e1, e2, e3, e4, fun a1 a2 a3 => e5 (by rw [g5 40 (by omega)]; exact a1) a2 a3, fun B a1 a2 a3 a4 => ?_, by rw [← g5 41 (by omega)]; exact e7, fun k q1 q2 q3 => by rw [e8 k q1 q2 q3]; exact g5 k q1⟩
          obtain ⟨q1, q2, q3⟩ := e6 B a1 a2 a3 (by omega)
          exact ⟨q1, q2, by omega⟩
      · simp only [if_neg c0]
        have hpos : ¬ cur.toInt ≤ (0 : Int32).toInt := fun q => c0 (i_le.mpr q)
        obtain ⟨w, ch1, m1, g1, g2, g3, g4, g5, g6, g7, g8⟩ := take_rel hW hR br cur hi hb (by omega) h9 wa wm
        rw [ob2_s g1, ob2_s g2]
        obtain ⟨wa', wm', ch', m', e1, e2, e3, e4, e5, e6, e7, e8⟩ := ih (i + 1) n n' (cap9 (wa + w)) (wm + w) ch1 m1 (by omega) (by omega) (by omega) g3 g4
        refine ⟨wa', wm', ch', m', e1, e2, e3, e4, fun a1 a2 a3 => ?_, fun B a1 a2 a3 a4 => ?_, by rw [← g8 41 (by omega) (by omega)]; exact e7, fun k q1 q2 q3 => by rw [e8 k q1 q2 q3]; exact g8 k q1 q2⟩
        · have s := i_add (x := wa) (y := w) (by omega) (by omega)
          have cp := cap9_i (wa + w)
          refine e5 (by rw [g7, ← a1]) ?_ ?_
          · rw [cp]; split <;> omega
          · rw [cp]; split <;> omega
        · subst a1
          have s := i_add (x := wa) (y := w) (by omega) (by omega)
          obtain ⟨q1, q2, q3⟩ := e6 (B + 9) (cap9_small (by omega)) (by omega) (by omega) (by omega)
          exact ⟨q1, q2, by omega⟩
def CReal (st wa dn : Int32) (m : Nat → Int32) : Prop := st = m 39 ∧ wa = m 40 ∧ dn = m 41 ∧ 0 ≤ st.toInt ∧ st.toInt ≤ 9999 ∧ 0 ≤ wa.toInt ∧ wa.toInt ≤ 9999 ∧ 0 ≤ dn.toInt ∧ dn.toInt ≤ 9999
def CTry (B : Int) (st wa dn sm wm dm : Int32) : Prop := st = sm ∧ wa = wm ∧ dn = dm ∧ 0 ≤ st.toInt ∧ st.toInt ≤ B ∧ 0 ≤ wa.toInt ∧ wa.toInt ≤ 45 * B ∧ 0 ≤ dn.toInt ∧ dn.toInt ≤ 9 * B
theorem send_rel {nc : Nat} {kd rm ch lk m : Nat → Int32} (hW : WR nc kd rm ch lk) (hR : RA nc kd rm ch lk m) (br cur st wa dn dm sm wm is : Int32) (h0 : -9 ≤ cur.toInt) (h9 : cur.toInt ≤ 9) : ∃ (stp : Bool) (st' wa' dn' dm' sm' wm' : Int32) (ch' m' : Nat → Int32),
    f_X1_stoppedBySending cur (nI nc) st wa dn br kd rm ch = some (zB stp, st', wa', dn', ch') ∧ f_X6_currentGoes cur br dm sm wm is m = some (dm', sm', wm', zB stp, m') ∧ stp = sSt br cur kd rm ch nc 0 ∧ WR nc kd rm ch' lk ∧ RA nc kd rm ch' lk m' ∧
    (CReal st wa dn m → CReal st' wa' dn' m') ∧ (∀ B : Int, B ≤ 220 → CTry B st wa dn sm wm dm → CTry (B + 1) st' wa' dn' sm' wm' dm') ∧ dm' = dm + (if stp = true then 0 else dBy cur nc) ∧ (∀ k, 20 ≤ k → ¬ k = 39 → ¬ k = 40 → ¬ k = 41 → m' k = m k) ∧ (∀ B : Int, B ≤ 220 → CTry B st wa dn sm wm dm → st.toInt ≤ st'.toInt) := by
  have hc := hW.1
  have z1 : (1 : Int32).toInt = 1 := rfl
  unfold f_X1_stoppedBySending f_X6_currentGoes
  rw [ob1_s (p1_stops hc br cur kd rm ch), ob1_s (p6_anyStops hW hR br cur)]
  cases hs : sSt br cur kd rm ch nc 0 with
  | true =>
    unfold cz
    rw [if_neg (show ¬ zB true = 0 by decide), if_pos (show zB true = 0 ∨ zB true = 1 from Or.inr rfl), if_neg (show ¬ zB true = 0 by decide), show (39 : Int32) = nI 39 from rfl, ck_nI (by decide) (by decide), nI_clamp (by decide), ob1_s (p6_lesser _ _), cap_iMin, ck_nI (by decide) (by decide)]
    refine ⟨true, cap9 (st + 1), wa, dn, dm, sm + 1, wm, ch, _, rfl, rfl, rfl, hW, RA_far hR hc (by omega) _, ?_, ?_, by rw [if_pos rfl, Int32.add_zero], fun k _ g _ _ => upd_n g, ?_⟩
    · rintro ⟨a1, a2, a3, a4, a5, a6, a7, a8, a9⟩
      have s := i_add (x := st) (y := 1) (by omega) (by omega)
      have cp := cap9_i (st + 1)
      refine ⟨by rw [upd_s, a1], by rw [upd_n (by omega)]; exact a2, by rw [upd_n (by omega)]; exact a3, ?_, ?_, a6, a7, a8, a9⟩
      · rw [cp]; split <;> omega
      · rw [cp]; split <;> omega
    · rintro B hB ⟨a1, a2, a3, a4, a5, a6, a7, a8, a9⟩
      have s := i_add (x := st) (y := 1) (by omega) (by omega)
      rw [cap9_small (by omega)]
      exact ⟨by rw [a1], a2, a3, by omega, by omega, a6, by omega, a8, by omega⟩
    · rintro B hB ⟨a1, a2, a3, a4, a5, a6, a7, a8, a9⟩
      have s := i_add (x := st) (y := 1) (by omega) (by omega)
      rw [cap9_small (by omega)]
      omega
  | false =>
    unfold cz
    rw [if_pos (show zB false = 0 from rfl), if_pos (show zB false = 0 ∨ zB false = 1 from Or.inl rfl), if_pos (show zB false = 0 from rfl)]
    obtain ⟨wa', wm', ch', m', e1, e2, e3, e4, e5, e6, e7, e8⟩ := go_loop hc br cur st dn dm sm (zB false) h0 h9 nc 0 1000 1000 wa wm ch m (by omega) (by omega) (by omega) hW hR
    have hd := dBy_r cur nc h0 h9
    refine ⟨false, st, wa', _, _, sm, wm', ch', m', e1, e2, rfl, e3, e4, ?_, ?_, by rw [if_neg (by decide)], fun k g1 _ g3 g4 => e8 k g1 g3 g4, fun _ _ _ => Int.le_refl _⟩
    · rintro ⟨a1, a2, a3, a4, a5, a6, a7, a8, a9⟩
      obtain ⟨q1, q2, q3⟩ := e5 a2 a6 a7
      have s := i_add (x := dn) (y := dBy cur nc) (by omega) (by omega)
      have cp := cap9_i (dn + dBy cur nc)
      refine ⟨by rw [e8 39 (by omega) (by omega) (by omega)]; exact a1, q1, ?_, a4, a5, q2, q3, ?_, ?_⟩
      · rcases e7 with ⟨g1, g2⟩ | g
        · rw [g1, g2, Int32.add_zero, cap9_small a9]; exact a3
        · rw [g, ← a3]
      · rw [cp]; split <;> omega
      · rw [cp]; split <;> omega
    · rintro B hB ⟨a1, a2, a3, a4, a5, a6, a7, a8, a9⟩
      obtain ⟨q1, q2, q3⟩ := e6 (45 * B) a2 (by rw [← a2]; exact a6) (by rw [← a2]; exact a7) (by omega)
      have s := i_add (x := dn) (y := dBy cur nc) (by omega) (by omega)
      refine ⟨a1, q1, by rw [cap9_small (by omega), a3], a4, by omega, by rw [q1]; exact q2, by rw [q1]; omega, by rw [cap9_small (by omega)]; omega, by rw [cap9_small (by omega)]; omega⟩
