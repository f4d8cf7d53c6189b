def cap9 (z : Int32) : Int32 := if z < 9999 then z else 9999
theorem cap_iMin (z : Int32) : iMin 9999 z = cap9 z := by
  unfold iMin cap9
  have e : (9999 : Int32).toInt = 9999 := rfl
  by_cases c : z < 9999
  · rw [if_pos c, if_pos (i_le.mpr (by have := i_lt.mp c; omega))]
  · rw [if_neg c]
    by_cases c2 : z ≤ 9999
    · rw [if_pos c2]
      exact i_eq.mpr (by have h1 := i_le.mp c2; have h2 : ¬ z.toInt < (9999 : Int32).toInt := fun q => c (i_lt.mpr q); omega)
    · rw [if_neg c2]
theorem cap9_i (z : Int32) : (cap9 z).toInt = if z.toInt < 9999 then z.toInt else 9999 := by
  unfold cap9
  have e : (9999 : Int32).toInt = 9999 := rfl
  by_cases c : z < 9999
  · rw [if_pos c, if_pos (by have := i_lt.mp c; omega)]
  · rw [if_neg c, if_neg (fun q => c (i_lt.mpr (by omega)))]
    rfl
theorem RA_upd {nc : Nat} {kd rm ch lk m : Nat → Int32} (hR : RA nc kd rm ch lk m) (hc : nc ≤ 5) {j : Nat} (hj : j < nc) (v : Int32) : RA nc kd rm (upd ch j v) lk (upd m (4 * j + 2) v) := by
  refine ⟨by rw [upd_n (by omega)]; exact hR.1, fun i hi => ?_⟩
  obtain ⟨r1, r2, r3, r4⟩ := hR.2 i hi
  refine ⟨by rw [upd_n (by omega)]; exact r1, by rw [upd_n (by omega)]; exact r2, ?_, by rw [upd_n (by omega)]; exact r4⟩
  by_cases e : i = j
  · subst e; rw [upd_s, upd_s]
  · rw [upd_n e, upd_n (by omega)]; exact r3
theorem RA_far {nc : Nat} {kd rm ch lk m : Nat → Int32} (hR : RA nc kd rm ch lk m) (hc : nc ≤ 5) {k : Nat} (hk : 20 < k) (v : Int32) : RA nc kd rm ch lk (upd m k v) := by
  refine ⟨by rw [upd_n (by omega)]; exact hR.1, fun i hi => ?_⟩
  obtain ⟨r1, r2, r3, r4⟩ := hR.2 i hi
  exact ⟨by rw [upd_n (by omega)]; exact r1, by rw [upd_n (by omega)]; exact r2, by rw [upd_n (by omega)]; exact r3, by rw [upd_n (by omega)]; exact r4⟩
theorem WR_upd {nc : Nat} {kd rm ch lk : Nat → Int32} (hW : WR nc kd rm ch lk) {j : Nat} (hj : j < nc) (v : Int32) (h0 : 0 ≤ v.toInt) (h1 : v.toInt ≤ (rm j).toInt) : WR nc kd rm (upd ch j v) lk := by
  refine ⟨hW.1, fun i hi => ?_⟩
  obtain ⟨w1, w2, w3, w4, w5, w6, w7, w8⟩ := hW.2 i hi
  by_cases e : i = j
  · subst e; rw [upd_s]; exact ⟨w1, w2, w3, w4, h0, h1, w7, w8⟩
  · rw [upd_n e]; exact ⟨w1, w2, w3, w4, w5, w6, w7, w8⟩
theorem put_facts {a r c : Int32} (ha0 : 0 ≤ a.toInt) (ha9 : a.toInt ≤ 9) (hr : r.toInt ≤ 99) (hc : 0 ≤ c.toInt) (hcr : c.toInt ≤ r.toInt) : 0 ≤ (iMin a (r - c)).toInt ∧ (iMin a (r - c)).toInt ≤ a.toInt ∧ 0 ≤ (c + iMin a (r - c)).toInt ∧ (c + iMin a (r - c)).toInt ≤ r.toInt ∧ (a - iMin a (r - c)).toInt = a.toInt - (iMin a (r - c)).toInt := by
  have e := iMin_i a (r - c)
  rw [i_sub (x := r) (y := c) (by omega) (by omega)] at e
  have h1 : 0 ≤ (iMin a (r - c)).toInt ∧ (iMin a (r - c)).toInt ≤ a.toInt ∧ (iMin a (r - c)).toInt ≤ r.toInt - c.toInt := by
    rw [e]
    split <;> omega
  have e2 := i_add (x := c) (y := iMin a (r - c)) (by omega) (by omega)
  have e3 := i_sub (x := a) (y := iMin a (r - c)) (by omega) (by omega)
  omega
theorem draw_facts {a c : Int32} (ha0 : 0 ≤ a.toInt) (ha9 : a.toInt ≤ 9) (hc : 0 ≤ c.toInt) (hc9 : c.toInt ≤ 99) : 0 ≤ (iMin a c).toInt ∧ (iMin a c).toInt ≤ a.toInt ∧ 0 ≤ (c - iMin a c).toInt ∧ (c - iMin a c).toInt ≤ c.toInt ∧ (a - iMin a c).toInt = a.toInt - (iMin a c).toInt := by
  have e := iMin_i a c
  have h1 : 0 ≤ (iMin a c).toInt ∧ (iMin a c).toInt ≤ a.toInt ∧ (iMin a c).toInt ≤ c.toInt := by
    rw [e]
    split <;> omega
  have e2 := i_sub (x := c) (y := iMin a c) (by omega) (by omega)
  have e3 := i_sub (x := a) (y := iMin a c) (by omega) (by omega)
  omega
theorem p6_takes32 (v br wm : Int32) (m : Nat → Int32) : f_X6_takes_32 v br wm m = some (wm + v, upd m 40 (cap9 (m 40 + v))) := by
  unfold f_X6_takes_32
  rw [show (40 : Int32) = nI 40 from rfl]
  simp only [ck_nI (show 40 < 61 by decide) (show 61 < 2 ^ 31 by decide), nI_clamp (show 40 < 2 ^ 31 by decide), ob1, p6_lesser, cap_iMin]
theorem take_rel {nc : Nat} {kd rm ch lk m : Nat → Int32} (hW : WR nc kd rm ch lk) (hR : RA nc kd rm ch lk m) (br cur : Int32) {j : Nat} (hj : j < nc) (hb : ¬ nI j = br) (h0 : 0 ≤ cur.toInt) (h9 : cur.toInt ≤ 9) (wa wm : Int32) : ∃ (w : Int32) (ch' m' : Nat → Int32), f_X1_takeInto (nI j) cur (nI nc) wa br kd rm ch = some (cap9 (wa + w), ch') ∧ f_X6_takes (nI j) cur br wm m = some (wm + w, m') ∧ WR nc kd rm ch' lk ∧ RA nc kd rm ch' lk m' ∧ 0 ≤ w.toInt ∧ w.toInt ≤ 9 ∧ m' 40 = cap9 (m 40 + w) ∧ ∀ k, 20 ≤ k → ¬ k = 40 → m' k = m k := by
  have hc := hW.1
  obtain ⟨r1, r2, r3, r4⟩ := hR.2 j hj
  obtain ⟨w1, w2, w3, w4, w5, w6, w7, w8⟩ := hW.2 j hj
  obtain ⟨p1, p2, p3, p4, p5⟩ := put_facts (a := cur) (r := rm j) (c := ch j) h0 h9 w4 w5 w6
  generalize ht : iMin cur (rm j - ch j) = t at p1 p2 p3 p4 p5
  have hR1 := RA_upd hR hc hj (ch j + t)
  have hW1 := WR_upd hW hj (ch j + t) p3 p4
  have k1 : ∀ k, 20 ≤ k → upd m (4 * j + 2) (ch j + t) k = m k := fun k hk => upd_n (by omega)
  have ec : f_X1_put (nI j) cur rm ch = some (t, upd ch j (ch j + t)) := by rw [p1_put (by omega), ht]
  have em : f_X6_leftBy (nI j) cur m = some (cur - t, upd m (4 * j + 2) (ch j + t)) := by rw [p6_leftBy (by omega), ← r2, ← r3, ht]
  generalize upd ch j (ch j + t) = ch1 at hR1 hW1 ec
  generalize upd m (4 * j + 2) (ch j + t) = m1 at hR1 em k1
  have hplain : ∃ (w : Int32) (ch' m' : Nat → Int32), f_X1_takeInto_46 (cur - t) (nI nc) wa br kd rm ch1 = some (cap9 (wa + w), ch') ∧ f_X6_takes_32 (cur - t) br wm m1 = some (wm + w, m') ∧ WR nc kd rm ch' lk ∧ RA nc kd rm ch' lk m' ∧ 0 ≤ w.toInt ∧ w.toInt ≤ 9 ∧ m' 40 = cap9 (m 40 + w) ∧ ∀ k, 20 ≤ k → ¬ k = 40 → m' k = m k := by
    refine ⟨cur - t, ch1, upd m1 40 (cap9 (m1 40 + (cur - t))), rfl, p6_takes32 _ _ _ _, hW1, RA_far hR1 hc (by omega) _, by omega, by omega, by rw [upd_s, k1 40 (by omega)], fun k g1 g2 => by rw [upd_n g2]; exact k1 k g1⟩
  have hshare : 0 < (cur - t).toInt → ∃ (w : Int32) (ch' m' : Nat → Int32), f_X1_takeInto_33 (nI j) (cur - t) (nI nc) wa br kd rm ch1 = some (cap9 (wa + w), ch') ∧ (ob1 (f_X6_extremeOne 0 br m1) fun a_5 => ob2 (f_X6_leftBy a_5 (cur - t) m1) fun a_6 mNow_7 => f_X6_takes_32 a_6 br wm mNow_7) = some (wm + w, m') ∧ WR nc kd rm ch' lk ∧ RA nc kd rm ch' lk m' ∧ 0 ≤ w.toInt ∧ w.toInt ≤ 9 ∧ m' 40 = cap9 (m 40 + w) ∧ ∀ k, 20 ≤ k → ¬ k = 40 → m' k = m k := by
    intro hpos
    obtain ⟨p, hp, e1⟩ := p1_poorest hc br ch1 hj hb
    obtain ⟨p', hp', e2⟩ := p6_least hc hR1 br hj hb
    have := isLeast_u hp hp'
    subst this
    have hpn := hp.1
    obtain ⟨q1, q2, q3, q4⟩ := hR1.2 p hpn
    obtain ⟨x1, x2, x3, x4, x5, x6, x7, x8⟩ := hW1.2 p hpn
    obtain ⟨y1, y2, y3, y4, y5⟩ := put_facts (a := cur - t) (r := rm p) (c := ch1 p) (by omega) (by omega) x4 x5 x6
    unfold f_X1_takeInto_33 f_X1_takeInto_46 bd
    rw [ob1_s e1, ob2_s (p1_put (by omega) _ _ _), ob1_s e2, ob2_s (p6_leftBy (by omega) _ _), ← q2, ← q3, p6_takes32]
    generalize iMin (cur - t) (rm p - ch1 p) = t2 at y1 y2 y3 y4 y5 ⊢
    refine ⟨cur - t - t2, _, _, rfl, rfl, WR_upd hW1 hpn _ y3 y4, RA_far (RA_upd hR1 hc hpn _) hc (by omega) _, by omega, by omega, by rw [upd_s, upd_n (by omega), k1 40 (by omega)], fun k g1 g2 => by rw [upd_n g2, upd_n (by omega)]; exact k1 k g1⟩
  unfold f_X1_takeInto f_X6_takes bd
  rw [ob2_s ec, ob2_s em]
  dsimp only
  by_cases c0 : (cur - t) ≤ 0
  · rw [if_pos c0, if_pos c0]
    exact hplain
  · rw [if_neg c0, if_neg c0, ck_nI (by omega) (by decide), ck_nI (by omega) (by decide), nI_clamp (by omega), ob1_s (p6_of0 (by omega) m1), ← (hR1.2 j hj).1]
    have hpos : 0 < (cur - t).toInt := by
      have h : ¬ (cur - t).toInt ≤ (0 : Int32).toInt := fun q => c0 (i_le.mpr q)
      have : (0 : Int32).toInt = 0 := rfl
      omega
    have t2 : (2 : Int32).toInt = 2 := rfl
    have t3 : (3 : Int32).toInt = 3 := rfl
    by_cases k2 : kd j = 2
    · rw [if_pos k2, if_neg (fun q => by have := i_lt.mp q; rw [k2] at this; omega)]
      exact hshare hpos
    · rw [if_neg k2]
      by_cases k3 : kd j = 3
      · rw [if_pos k3, if_neg (fun q => by have := i_lt.mp q; rw [k3] at this; omega)]
        exact hshare hpos
      · rw [if_neg k3, if_pos (i_lt.mpr (by
          have a2 : ¬ (kd j).toInt = (2 : Int32).toInt := fun q => k2 (i_eq.mpr q)
          have a3 : ¬ (kd j).toInt = (3 : Int32).toInt := fun q => k3 (i_eq.mpr q)
          omega))]
        exact hplain
theorem give_rel {nc : Nat} {kd rm ch lk m : Nat → Int32} (hW : WR nc kd rm ch lk) (hR : RA nc kd rm ch lk m) (br cur : Int32) {j : Nat} (hj : j < nc) (hb : ¬ nI j = br) (h0 : 0 ≤ cur.toInt) (h9 : cur.toInt ≤ 9) : ∃ (ch' m' : Nat → Int32), f_X1_giveFrom (nI j) cur (nI nc) br kd ch = some ch' ∧ f_X6_gives (nI j) cur br m = some m' ∧ WR nc kd rm ch' lk ∧ RA nc kd rm ch' lk m' ∧ ∀ k, 20 ≤ k → m' k = m k := by
  have hc := hW.1
  obtain ⟨r1, r2, r3, r4⟩ := hR.2 j hj
  obtain ⟨w1, w2, w3, w4, w5, w6, w7, w8⟩ := hW.2 j hj
  obtain ⟨p1, p2, p3, p4, p5⟩ := draw_facts (a := cur) (c := ch j) h0 h9 w5 (by omega)
  generalize ht : iMin cur (ch j) = t at p1 p2 p3 p4 p5
  have hR1 := RA_upd hR hc hj (ch j - t)
  have hW1 := WR_upd hW hj (ch j - t) p3 (by omega)
  have k1 : ∀ k, 20 ≤ k → upd m (4 * j + 2) (ch j - t) k = m k := fun k hk => upd_n (by omega)
  have ec : f_X1_draw (nI j) cur ch = some (t, upd ch j (ch j - t)) := by rw [p1_draw (by omega), ht]
  have em : f_X6_lackBy (nI j) cur m = some (cur - t, upd m (4 * j + 2) (ch j - t)) := by rw [p6_lackBy (by omega), ← r3, ht]
  generalize upd ch j (ch j - t) = ch1 at hR1 hW1 ec
  generalize upd m (4 * j + 2) (ch j - t) = m1 at hR1 em k1
  unfold f_X1_giveFrom f_X6_gives bd
  rw [ob2_s ec, ob2_s em]
  dsimp only
  by_cases c0 : (cur - t) ≤ 0
  · rw [if_pos c0, if_pos c0]
    exact ⟨ch1, m1, rfl, rfl, hW1, hR1, k1⟩
  · rw [if_neg c0, if_neg c0, ck_nI (by omega) (by decide), nI_clamp (by omega), ob1_s (p6_of0 (by omega) m1), ← (hR1.2 j hj).1]
    have hpos : 0 < (cur - t).toInt := by
      have h : ¬ (cur - t).toInt ≤ (0 : Int32).toInt := fun q => c0 (i_le.mpr q)
      have : (0 : Int32).toInt = 0 := rfl
      omega
    by_cases k3 : kd j = 3
    · rw [if_pos k3, if_pos k3]
      obtain ⟨p, hp, e1⟩ := p1_richest hc br ch1 hj hb
      obtain ⟨p', hp', e2⟩ := p6_most hc hR1 br hj hb
      have := isMost_u hp hp'
      subst this
      have hpn := hp.1
      obtain ⟨q1, q2, q3, q4⟩ := hR1.2 p hpn
      obtain ⟨x1, x2, x3, x4, x5, x6, x7, x8⟩ := hW1.2 p hpn
      obtain ⟨y1, y2, y3, y4, y5⟩ := draw_facts (a := cur - t) (c := ch1 p) (by omega) (by omega) x5 (by omega)
      rw [ob1_s e1, ob2_s (p1_draw (by omega) _ _), ob1_s e2, ob2_s (p6_lackBy (by omega) _ _), ← q3]
      generalize iMin (cur - t) (ch1 p) = t2 at y1 y2 y3 y4 y5 ⊢
      exact ⟨_, _, rfl, rfl, WR_upd hW1 hpn _ y3 (by omega), RA_upd hR1 hc hpn _, fun k g1 => by rw [upd_n (by omega)]; exact k1 k g1⟩
    · rw [if_neg k3, if_neg k3]
      exact ⟨ch1, m1, rfl, rfl, hW1, hR1, k1⟩
