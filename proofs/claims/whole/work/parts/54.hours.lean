/-- a row that runs, against the reference's numbers -/
def RR (nc ns hr : Nat) (kd rm ch lk pl m : Nat → Int32) : Prop := RA nc kd rm ch lk m ∧ m 37 = nI ns ∧ (∀ i, i < ns → pl i = m (21 + i)) ∧ m 38 = nI hr
def WP (ns : Nat) (pl : Nat → Int32) : Prop := ns ≤ 16 ∧ ∀ i, i < ns → 0 ≤ (pl i).toInt ∧ (pl i).toInt ≤ 18
def sCur (ns hr : Nat) (pl : Nat → Int32) : Int32 := if ns = 0 then 0 else pl (hr % ns) - 9
theorem sCur_r {ns : Nat} {pl : Nat → Int32} (h : WP ns pl) (hr : Nat) : -9 ≤ (sCur ns hr pl).toInt ∧ (sCur ns hr pl).toInt ≤ 9 := by
  have z9 : (9 : Int32).toInt = 9 := rfl
  unfold sCur
  by_cases c : ns = 0
  · rw [if_pos c]
    have : (0 : Int32).toInt = 0 := rfl
    omega
  · rw [if_neg c]
    have := h.2 (hr % ns) (Nat.mod_lt _ (by omega))
    rw [i_sub (by omega) (by omega)]
    omega
theorem p1_current {ns : Nat} (hs : ns ≤ 16) {hr : Nat} (hh : hr < 100000) (pl : Nat → Int32) : f_X1_current (nI ns) (nI hr) pl = some (sCur ns hr pl) := by
  unfold f_X1_current sCur
  by_cases c : ns = 0
  · subst c
    rw [if_pos (show nI 0 ≤ 0 by decide), if_pos rfl]
  · rw [if_neg c, if_neg (nI_nle (by omega) (by omega)), pk_rem (by omega) (by omega) (by omega)]
    have hm := Nat.mod_lt hr (show ns > 0 by omega)
    unfold dz
    rw [if_neg (nI_ne0 (by omega) (by omega)), ck_nI (by omega) (by decide), nI_clamp (by omega)]
theorem p6_currentNow {nc ns hr : Nat} {kd rm ch lk pl m : Nat → Int32} (hR : RR nc ns hr kd rm ch lk pl m) (hs : ns ≤ 16) (hh : hr < 100000) : f_X6_currentNow m = some (sCur ns hr pl) := by
  obtain ⟨-, e1, e2, e3⟩ := hR
  unfold f_X6_currentNow sCur
  rw [show (37 : Int32) = nI 37 from rfl, show (38 : Int32) = nI 38 from rfl]
  simp only [ck_nI (show 37 < 61 by decide) (show 61 < 2 ^ 31 by decide), ck_nI (show 38 < 61 by decide) (show 61 < 2 ^ 31 by decide), nI_clamp (show 37 < 2 ^ 31 by decide), nI_clamp (show 38 < 2 ^ 31 by decide), e1, e3]
  by_cases c : ns = 0
  · subst c
    rw [if_pos (show nI 0 = 0 by decide), if_pos rfl]
  · have hm := Nat.mod_lt hr (show ns > 0 by omega)
    unfold dz
    rw [if_neg c, if_neg (nI_ne0 (by omega) (by omega)), if_neg (nI_ne0 (by omega) (by omega)), pk_rem (by omega) (by omega) (by omega), show (21 : Int32) = nI 21 from rfl, nI_add, ck_nI (by omega) (by decide), nI_clamp (by omega), ← e2 _ hm]
theorem leak_loop {nc : Nat} {kd rm lk : Nat → Int32} (hc : nc ≤ 5) (v1 v2 hr st wa dn br dm sm wm is : Int32) : ∀ (d i n n' : Nat) (ch m : Nat → Int32), i + d = nc → d < n → d < n' → WR nc kd rm ch lk → RA nc kd rm ch lk m → ∃ (ch' m' : Nat → Int32),
    f_X1_passHour_8 v1 v2 (nI nc) hr st wa dn br kd rm lk n (nI i) ch = (if v2 = 0 then some (dBy v1 nc, hr + 1, st, wa, dn, ch') else some (0, hr + 1, st, wa, dn, ch')) ∧
    f_X6_hourGoes_7 br dm sm wm is n' (nI i) m = some (dm, sm, wm, is, upd m' 38 (m' 38 + 1)) ∧ WR nc kd rm ch' lk ∧ RA nc kd rm ch' lk m' ∧ ∀ k, 20 ≤ k → m' k = m k := by
  have z0 : (0 : Int32).toInt = 0 := rfl
  intro d
  induction d with
  | zero =>
    intro i n n' ch m h1 h2 h3 hW hR
    obtain ⟨n, rfl⟩ : ∃ m, n = m + 1 := ⟨n - 1, by omega⟩
    obtain ⟨n', rfl⟩ : ∃ m, n' = m + 1 := ⟨n' - 1, by omega⟩
    have hi : i = nc := by omega
    subst hi
    refine ⟨ch, m, ?_, ?_, hW, hR, fun _ _ => rfl⟩
    · rw [f_X1_passHour_8, if_pos (nI_le (Nat.le_refl _) (by omega)), ob1_s (p1_doneBy v1 hc)]
    · rw [f_X6_hourGoes_7, show (20 : Int32) = nI 20 from rfl, show (38 : Int32) = nI 38 from rfl, ck_nI (by decide) (by decide), nI_clamp (show 20 < 2 ^ 31 by decide), hR.1, if_pos (nI_le (Nat.le_refl _) (by omega)), ck_nI (by decide) (by decide), ck_nI (by decide) (by decide), nI_clamp (show 38 < 2 ^ 31 by decide)]
  | succ d ih =>
    intro i n n' ch m h1 h2 h3 hW hR
    obtain ⟨n, rfl⟩ : ∃ m, n = m + 1 := ⟨n - 1, by omega⟩
    obtain ⟨n', rfl⟩ : ∃ m, n' = m + 1 := ⟨n' - 1, by omega⟩
    have hi : i < nc := by omega
    obtain ⟨r1, r2, r3, r4⟩ := hR.2 i hi
    obtain ⟨w1, w2, w3, w4, w5, w6, w7, w8⟩ := hW.2 i hi
    have hs := i_sub (x := ch i) (y := lk i) (by omega) (by omega)
    obtain ⟨v, hv1, hv2, hv3, hv4⟩ : ∃ v : Int32, (if 0 < (ch i - lk i) then (ch i - lk i) else 0) = v ∧ (if ch i ≤ lk i then (0 : Int32) else ch i - lk i) = v ∧ 0 ≤ v.toInt ∧ v.toInt ≤ (rm i).toInt := by
      by_cases c : ch i ≤ lk i
      · have c' := i_le.mp c
        have c2 : ¬ (0 : Int32) < (ch i - lk i) := fun q => by have := i_lt.mp q; omega
        exact ⟨0, if_neg c2, if_pos c, by omega, by omega⟩
      · have c' : ¬ (ch i).toInt ≤ (lk i).toInt := fun q => c (i_le.mpr q)
        have c2 : (0 : Int32) < (ch i - lk i) := i_lt.mpr (by omega)
        exact ⟨ch i - lk i, if_pos c2, if_neg c, by omega, by omega⟩
    obtain ⟨ch', m', e1, e2, e3, e4, e5⟩ := ih (i + 1) n n' (upd ch i v) (upd m (4 * i + 2) v) (by omega) (by omega) (by omega) (WR_upd hW hi v hv3 hv4) (RA_upd hR hc hi v)
    refine ⟨ch', m', ?_, ?_, e3, e4, fun k g => by rw [e5 k g, upd_n (by omega)]⟩
    · rw [f_X1_passHour_8, if_neg (nI_ge hi (by omega)), ck_nI (by omega) (by decide), ck_nI (by omega) (by decide), ck_nI (by omega) (by decide), nI_clamp (by omega), hv1, nI_1]
      exact e1
    · rw [f_X6_hourGoes_7, show (20 : Int32) = nI 20 from rfl, ck_nI (by decide) (by decide), nI_clamp (show 20 < 2 ^ 31 by decide), hR.1, if_neg (nI_ge hi (by omega)), ob1_s (p6_of2 (by omega) m), ob1_s (p6_of3 (by omega) m), ob1_s (p6_of2 (by omega) m), ob1_s (p6_of3 (by omega) m), ← r3, ← r4]
      unfold f_X6_hourGoes_53
      rw [p6_bo2 (by omega), p6_bo2 (by omega), nI_1]
      by_cases c : ch i ≤ lk i
      · rw [if_pos c] at hv2 ⊢
        rw [hv2]
        exact e2
      · rw [if_neg c] at hv2 ⊢
        rw [hv2]
        exact e2
theorem hour_rel {nc ns hr : Nat} {kd rm ch lk pl m : Nat → Int32} (hW : WR nc kd rm ch lk) (hR : RR nc ns hr kd rm ch lk pl m) (hs : ns ≤ 16) (br cur st wa dn dm sm wm is : Int32) (h0 : -9 ≤ cur.toInt) (h9 : cur.toInt ≤ 9) : ∃ (stp : Bool) (d st' wa' dn' sm' wm' : Int32) (ch' m' : Nat → Int32),
    f_X1_passHour cur (nI nc) (nI hr) st wa dn br kd rm ch lk = some (d, nI (hr + 1), st', wa', dn', ch') ∧ f_X6_hourGoes cur br dm sm wm is m = some (dm + d, sm', wm', zB stp, m') ∧ stp = sSt br cur kd rm ch nc 0 ∧ WR nc kd rm ch' lk ∧ RR nc ns (hr + 1) kd rm ch' lk pl m' ∧
    (CReal st wa dn m → CReal st' wa' dn' m') ∧ (∀ B : Int, B ≤ 220 → CTry B st wa dn sm wm dm → CTry (B + 1) st' wa' dn' sm' wm' (dm + d)) ∧ (0 ≤ d.toInt ∧ d.toInt ≤ 9) ∧ (∀ k, 42 ≤ k → m' k = m k) ∧ (∀ B : Int, B ≤ 220 → CTry B st wa dn sm wm dm → st.toInt ≤ st'.toInt) := by
  have hc := hW.1
  have z0 : (0 : Int32).toInt = 0 := rfl
  obtain ⟨hA, k1, k2, k3⟩ := hR
  obtain ⟨stp, st', wa', dn', dm', sm', wm', ch1, m1, e1, e2, e3, e4, e5, e6, e7, e8, e9, e10⟩ := send_rel hW hA br cur st wa dn dm sm wm is h0 h9
  obtain ⟨ch2, m2, g1, g2, g3, g4, g5⟩ := leak_loop hc cur (zB stp) (nI hr) st' wa' dn' br dm' sm' wm' (zB stp) nc 0 1000 1000 ch1 m1 (by omega) (by omega) (by omega) e4 e5
  have hd := dBy_r cur nc h0 h9
  have q : ∀ k, 20 ≤ k → ¬ k = 39 → ¬ k = 40 → ¬ k = 41 → m2 k = m k := fun k a1 a2 a3 a4 => by rw [g5 k a1]; exact e9 k a1 a2 a3 a4
  unfold f_X1_passHour f_X6_hourGoes
  rw [ob5_s e1, ob5_s e2]
  refine ⟨stp, if stp = true then 0 else dBy cur nc, st', wa', dn', sm', wm', ch2, upd m2 38 (m2 38 + 1), ?_, ?_, e3, g3, ⟨RA_far g4 hc (by omega) _, ?_, ?_, ?_⟩, ?_, ?_, ⟨?_, ?_⟩, fun k hk => by rw [upd_n (by omega)]; exact q k (by omega) (by omega) (by omega) (by omega), e10⟩
  · rw [show (0 : Int32) = nI 0 from rfl] at g1 ⊢
    rw [g1, nI_1]
    cases stp
    · rw [if_pos (show zB false = nI 0 from rfl), if_neg (by decide)]
    · rw [if_neg (show ¬ zB true = nI 0 by decide), if_pos rfl]
  · rw [show (0 : Int32) = nI 0 from rfl, g2, e8]
    rfl
  · rw [upd_n (by omega), q 37 (by omega) (by omega) (by omega) (by omega)]; exact k1
  · intro i hi
    rw [upd_n (by omega), q (21 + i) (by omega) (by omega) (by omega) (by omega)]; exact k2 i hi
  · rw [upd_s, q 38 (by omega) (by omega) (by omega) (by omega), k3, nI_1]
  · intro h
    obtain ⟨a1, a2, a3, a4⟩ := e6 h
    exact ⟨by rw [upd_n (by omega), g5 39 (by omega)]; exact a1, by rw [upd_n (by omega), g5 40 (by omega)]; exact a2, by rw [upd_n (by omega), g5 41 (by omega)]; exact a3, a4⟩
  · intro B hB h
    rw [← e8]
    exact e7 B hB h
  · cases stp
    · rw [if_neg (by decide)]; exact hd.1
    · rw [if_pos rfl]; omega
  · cases stp
    · rw [if_neg (by decide)]; exact hd.2
    · rw [if_pos rfl]; omega
theorem hours_loop {nc ns : Nat} {kd rm lk pl : Nat → Int32} (hP : WP ns pl) (br : Int32) {n : Nat} (hn : n < 1000) : ∀ (k i f f' hr : Nat) (acc st wa dn dm sm wm is : Int32) (ch m : Nat → Int32), i + k = n → k < f → k < f' → hr + k < 100000 → WR nc kd rm ch lk → RR nc ns hr kd rm ch lk pl m → ∃ (D st' wa' dn' sm' wm' is' : Int32) (ch' m' : Nat → Int32),
    f_X1_passHours_4 (nI n) (nI nc) (nI ns) br kd rm lk pl f acc (nI i) (nI hr) st wa dn ch = some (acc + D, nI (hr + k), st', wa', dn', ch') ∧ f_X6_hoursGo_2 (nI n) br f' (nI i) dm sm wm is m = some (dm + D, sm', wm', is', m') ∧ WR nc kd rm ch' lk ∧ RR nc ns (hr + k) kd rm ch' lk pl m' ∧
    (CReal st wa dn m → CReal st' wa' dn' m') ∧ (∀ B : Int, B + k ≤ 220 → CTry B st wa dn sm wm dm → CTry (B + k) st' wa' dn' sm' wm' (dm + D)) ∧ (∀ j, 42 ≤ j → m' j = m j) ∧ (∀ B : Int, B + k ≤ 220 → CTry B st wa dn sm wm dm → st.toInt ≤ st'.toInt) := by
  intro k
  induction k with
  | zero =>
    intro i f f' hr acc st wa dn dm sm wm is ch m h1 h2 h3 h4 hW hR
    obtain ⟨f, rfl⟩ : ∃ m, f = m + 1 := ⟨f - 1, by omega⟩
    obtain ⟨f', rfl⟩ : ∃ m, f' = m + 1 := ⟨f' - 1, by omega⟩
    refine ⟨0, st, wa, dn, sm, wm, is, ch, m, ?_, ?_, hW, hR, id, fun B _ h => ?_, fun _ _ => rfl, fun _ _ _ => Int.le_refl _⟩
    · rw [f_X1_passHours_4, if_pos (nI_le (by omega) (by omega)), Int32.add_zero]
      rfl
    · rw [f_X6_hoursGo_2, if_pos (nI_le (by omega) (by omega)), Int32.add_zero]
    · rw [Int32.add_zero, show B + ((0 : Nat) : Int) = B by omega]
      exact h
  | succ k ih =>
    intro i f f' hr acc st wa dn dm sm wm is ch m h1 h2 h3 h4 hW hR
    obtain ⟨f, rfl⟩ : ∃ m, f = m + 1 := ⟨f - 1, by omega⟩
    obtain ⟨f', rfl⟩ : ∃ m, f' = m + 1 := ⟨f' - 1, by omega⟩
    have hc := sCur_r hP hr
    obtain ⟨stp, d, st1, wa1, dn1, sm1, wm1, ch1, m1, e1, e2, -, e4, e5, e6, e7, -, e9, e10⟩ := hour_rel hW hR hP.1 br (sCur ns hr pl) st wa dn dm sm wm is hc.1 hc.2
    obtain ⟨D, st2, wa2, dn2, sm2, wm2, is2, ch2, m2, g1, g2, g3, g4, g5, g6, g7, g8⟩ := ih (i + 1) f f' (hr + 1) (acc + d) st1 wa1 dn1 (dm + d) sm1 wm1 (zB stp) ch1 m1 (by omega) (by omega) (by omega) (by omega) e4 e5
    refine ⟨d + D, st2, wa2, dn2, sm2, wm2, is2, ch2, m2, ?_, ?_, g3, ?_, fun h => g5 (e6 h), fun B hB h => ?_, fun j hj => by rw [g7 j hj]; exact e9 j hj, fun B hB h => Int.le_trans (e10 B (by omega) h) (g8 (B + 1) (by omega) (e7 B (by omega) h))⟩
    · rw [f_X1_passHours_4, if_neg (nI_ge (by omega) (by omega)), ob1_s (p1_current hP.1 (by omega) pl), ob6_s e1, nI_1]
      unfold bd
      dsimp only
      rw [g1, Int32.add_assoc, show hr + 1 + k = hr + (k + 1) by omega]
    · rw [f_X6_hoursGo_2, if_neg (nI_ge (by omega) (by omega)), ob1_s (p6_currentNow hR hP.1 (by omega)), ob5_s e2, nI_1, g2, Int32.add_assoc]
    · rw [show hr + (k + 1) = hr + 1 + k by omega]
      exact g4
    · have := g6 (B + 1) (by omega) (e7 B (by omega) h)
      rw [Int32.add_assoc] at this
      rw [show B + ((k + 1 : Nat) : Int) = B + 1 + k by omega]
      exact this
theorem hours_rel {nc ns hr : Nat} {kd rm ch lk pl m : Nat → Int32} (hW : WR nc kd rm ch lk) (hP : WP ns pl) (hR : RR nc ns hr kd rm ch lk pl m) (br : Int32) {n : Nat} (hn : n < 1000) (hh : hr < 50000) (st wa dn dm sm wm is : Int32) : ∃ (D st' wa' dn' sm' wm' is' : Int32) (ch' m' : Nat → Int32),
    f_X1_passHours (nI n) (nI nc) (nI ns) (nI hr) st wa dn br kd rm ch lk pl = some (D, nI (hr + n), st', wa', dn', ch') ∧ f_X6_hoursGo (nI n) br dm sm wm is m = some (dm + D, sm', wm', is', m') ∧ WR nc kd rm ch' lk ∧ RR nc ns (hr + n) kd rm ch' lk pl m' ∧
    (CReal st wa dn m → CReal st' wa' dn' m') ∧ (∀ B : Int, B + n ≤ 220 → CTry B st wa dn sm wm dm → CTry (B + n) st' wa' dn' sm' wm' (dm + D)) ∧ (∀ j, 42 ≤ j → m' j = m j) := by
  obtain ⟨D, st2, wa2, dn2, sm2, wm2, is2, ch2, m2, g1, g2, g3, g4, g5, g6, g7, -⟩ := hours_loop hP br hn n 0 1000 1000 hr 0 st wa dn dm sm wm is ch m (by omega) (by omega) (by omega) (by omega) hW hR
  rw [Int32.zero_add] at g1
  exact ⟨D, st2, wa2, dn2, sm2, wm2, is2, ch2, m2, g1, g2, g3, g4, g5, g6, g7⟩
