/-! read -/
theorem p6_r208 (v7 t : Int32) (mL mZ mC mB : Nat → Int32) : ∀ (d i n : Nat) (m : Nat → Int32), i + d = 61 → d < n → ∃ m', f_X6_read_208 v7 t mL mZ mC mB n (nI i) m = some ((-20) - v7, t, m', mB) ∧ (∀ q, i ≤ q → q < 61 → m' q = mB q) ∧ ∀ q, (q < i ∨ 61 ≤ q) → m' q = m q := by
  intro d
  induction d with
  | zero =>
    intro i n m h1 h2
    obtain ⟨n, rfl⟩ : ∃ m, n = m + 1 := ⟨n - 1, by omega⟩
    refine ⟨m, ?_, fun k g1 g2 => by omega, fun k _ => rfl⟩
    rw [f_X6_read_208, show (61 : Int32) = nI 61 from rfl, if_pos (nI_le (by omega) (by omega))]
  | succ d ih =>
    intro i n m h1 h2
    obtain ⟨n, rfl⟩ : ∃ m, n = m + 1 := ⟨n - 1, by omega⟩
    obtain ⟨m', e1, e2, e3⟩ := ih (i + 1) n (upd m i (mB i)) (by omega) (by omega)
    refine ⟨m', ?_, fun k g1 g2 => ?_, fun k g => ?_⟩
    · rw [f_X6_read_208, show (61 : Int32) = nI 61 from rfl, if_neg (nI_ge (by omega) (by omega)), ck_nI (by omega) (by decide), ck_nI (by omega) (by decide), nI_clamp (by omega), nI_1, e1]
    · by_cases c : k = i
      · subst c; rw [e3 k (by omega), upd_s]
      · exact e2 k (by omega) g2
    · rw [e3 k (by omega), upd_n (by omega)]
theorem p6_r26 (v1 v2 v3 v4 t : Int32) (mSt mL mZ mC : Nat → Int32) : ∀ (d i n : Nat) (mB : Nat → Int32), i + d = 61 → d < n → (∀ k, k < i → mB k = mSt k) → ∃ mB', f_X6_read_26 v1 v2 v3 v4 t mSt mL mZ mC n (nI i) mB = f_X6_read_62 v1 v2 v3 v4 t mL mZ mC mB' 1000 0 0 0 mSt ∧ ∀ q, q < 61 → mB' q = mSt q := by
  intro d
  induction d with
  | zero =>
    intro i n mB h1 h2 h3
    obtain ⟨n, rfl⟩ : ∃ m, n = m + 1 := ⟨n - 1, by omega⟩
    refine ⟨mB, ?_, fun k g => h3 k (by omega)⟩
    rw [f_X6_read_26, show (61 : Int32) = nI 61 from rfl, if_pos (nI_le (by omega) (by omega))]
  | succ d ih =>
    intro i n mB h1 h2 h3
    obtain ⟨n, rfl⟩ : ∃ m, n = m + 1 := ⟨n - 1, by omega⟩
    obtain ⟨m', e1, e2⟩ := ih (i + 1) n (upd mB i (mSt i)) (by omega) (by omega) (fun k hk => by
      by_cases c : k = i
      · subst c; exact upd_s
      · rw [upd_n c]; exact h3 k (by omega))
    refine ⟨m', ?_, e2⟩
    rw [f_X6_read_26, show (61 : Int32) = nI 61 from rfl, if_neg (nI_ge (by omega) (by omega)), ck_nI (by omega) (by decide), ck_nI (by omega) (by decide), nI_clamp (by omega), nI_1, e1]
theorem i64_add {x y : Int64} (h : -2 ^ 63 ≤ x.toInt + y.toInt) (h2 : x.toInt + y.toInt < 2 ^ 63) : (x + y).toInt = x.toInt + y.toInt := by
  rw [Int64.toInt_add]
  exact Int.bmod_eq_of_le (by omega) (by omega)
/-- the place that is read, as a long -/
theorem rd_at {i : Nat} (hi : i ≤ 40) (f c : Int32) (hc : In 0 1 c) : ((f.toInt64 + ((2 * nI i).toInt64)) + c.toInt64 : Int64).toInt = f.toInt + 2 * i + c.toInt := by
  have r := i_rng f
  obtain ⟨c1, c2⟩ := hc
  have e : (2 * nI i : Int32).toInt = 2 * i := by rw [show (2 : Int32) = nI 2 from rfl, pk_mul, nI_toInt (by omega)]; omega
  have a1 : (f.toInt64 + ((2 * nI i).toInt64) : Int64).toInt = f.toInt + 2 * i := by
    rw [i64_add (by rw [i64_32, i64_32, e]; omega) (by rw [i64_32, i64_32, e]; omega), i64_32, i64_32, e]
  rw [i64_add (by rw [a1, i64_32]; omega) (by rw [a1, i64_32]; omega), a1, i64_32]
/-- why nothing more is read -/
def rWhy (la v2 : Int32) (p z : Int) : Int32 := if la = (-4) then 1 else if la = v2 then (if 0 ≤ p ∧ p + 1 < z then 0 else 2) else 3
theorem p6_r77 {k i : Nat} (hk : k < 4) (hi : i ≤ 40) (K : Int32 → Int32 → Int32 → (Nat → Int32) → Option (Int32 × Int32 × (Nat → Int32) × (Nat → Int32))) (v2 v3 v4 v6 t : Int32) (mSt mL mZ mC mB : Nat → Int32) : f_X6_read_77 K (nI k) v2 v3 v4 v6 (nI i) t mSt mL mZ mC mB 1000 0 0 = f_X6_read_164 K (nI k) v2 v3 v4 (rWhy (mL k) v2 (v3.toInt + 2 * i) (mZ k).toInt) v6 (nI i) t mSt mL mZ mC mB := by
  have a0 := rd_at hi v3 0 (by unfold In; decide)
  have a1 := rd_at hi v3 1 (by unfold In; decide)
  have z0 : (0 : Int32).toInt = 0 := rfl
  have z1 : (1 : Int32).toInt = 1 := rfl
  have z2 : (0 : Int64).toInt = 0 := rfl
  have s1 : ∀ R : Int32, ¬ R = 0 → f_X6_read_77 K (nI k) v2 v3 v4 v6 (nI i) t mSt mL mZ mC mB 999 R (0 + 1) = f_X6_read_164 K (nI k) v2 v3 v4 R v6 (nI i) t mSt mL mZ mC mB := fun R hR => by
    rw [f_X6_read_77, if_neg (show ¬ (2 : Int32) ≤ 0 + 1 by decide), if_neg hR]
  have s2 : ∀ R : Int32, f_X6_read_77 K (nI k) v2 v3 v4 v6 (nI i) t mSt mL mZ mC mB 998 R (0 + 1 + 1) = f_X6_read_164 K (nI k) v2 v3 v4 R v6 (nI i) t mSt mL mZ mC mB := fun R => by
    rw [f_X6_read_77, if_pos (show (2 : Int32) ≤ 0 + 1 + 1 by decide)]
  unfold rWhy
  rw [f_X6_read_77, if_neg (show ¬ (2 : Int32) ≤ 0 by decide), if_pos rfl]
  unfold bd
  dsimp only
  rw [ck_nI hk (by decide), ck_nI hk (by decide), ck_nI hk (by decide), nI_clamp (by omega)]
  by_cases c1 : mL k = (-4)
  · rw [if_pos c1, if_pos c1]
    exact s1 1 (by decide)
  · rw [if_neg c1, if_neg c1]
    by_cases c2 : mL k = v2
    · rw [if_pos c2, if_pos c2]
      by_cases c3 : v3.toInt + 2 * i < 0
      · rw [if_pos ((lg_cmp_lt _ _).mpr (Int64.lt_iff_toInt_lt.mpr (by rw [a0]; omega))), if_neg (by omega)]
        exact s1 2 (by decide)
      · rw [if_neg (fun q => by have := Int64.lt_iff_toInt_lt.mp ((lg_cmp_lt _ _).mp q); rw [a0] at this; omega)]
        by_cases c4 : v3.toInt + 2 * i < (mZ k).toInt
        · rw [if_pos ((lg_cmp_lt _ _).mpr (Int64.lt_iff_toInt_lt.mpr (by rw [a0, i64_32]; omega)))]
          rw [f_X6_read_77, if_neg (show ¬ (2 : Int32) ≤ 0 + 1 by decide), if_pos rfl]
          unfold bd
          dsimp only
          rw [ck_nI hk (by decide), ck_nI hk (by decide), ck_nI hk (by decide), nI_clamp (by omega), if_neg c1, if_pos c2, show (0 : Int32) + 1 = 1 from rfl, if_neg (fun q => by have := Int64.lt_iff_toInt_lt.mp ((lg_cmp_lt _ _).mp q); rw [a1] at this; omega)]
          by_cases c5 : v3.toInt + 2 * i + 1 < (mZ k).toInt
          · rw [if_pos ((lg_cmp_lt _ _).mpr (Int64.lt_iff_toInt_lt.mpr (by rw [a1, i64_32]; omega))), if_pos (by omega)]
            exact s2 0
          · rw [if_neg (fun q => by have := Int64.lt_iff_toInt_lt.mp ((lg_cmp_lt _ _).mp q); rw [a1, i64_32] at this; omega), if_neg (by omega)]
            exact s2 2
        · rw [if_neg (fun q => by have := Int64.lt_iff_toInt_lt.mp ((lg_cmp_lt _ _).mp q); rw [a0, i64_32] at this; omega), if_neg (by omega)]
          exact s1 2 (by decide)
    · rw [if_neg c2, if_neg c2]
      exact s1 3 (by decide)
/-- where nothing more can be read -/
theorem p6_rstop {k i N : Nat} (hk : k < 4) (hi : i ≤ 40) (hN : N ≤ 20) (hiN : i < N) (v2 v3 v6 t : Int32) (mSt mL mZ mC mB : Nat → Int32) (n : Nat) (hn : 1 < n) (hw : ¬ rWhy (mL k) v2 (v3.toInt + 2 * i) (mZ k).toInt = 0) : f_X6_read_62 (nI k) v2 v3 (nI N) t mL mZ mC mB n 0 v6 (nI i) mSt = some (v6, rWhy (mL k) v2 (v3.toInt + 2 * i) (mZ k).toInt, mSt, mB) := by
  obtain ⟨n, rfl⟩ : ∃ m, n = m + 2 := ⟨n - 2, by omega⟩
  rw [f_X6_read_62, if_neg (nI_ge hiN (by omega)), if_pos rfl, p6_r77 hk hi]
  unfold f_X6_read_164
  rw [if_neg hw, f_X6_read_62, if_neg hw]
  split <;> rfl
theorem read_loop {nc ns hr : Nat} {kd rm ch lk pl mSt : Nat → Int32} (h : MR nc ns hr kd rm ch lk pl mSt) {st wa dn : Int32} (hC : CReal st wa dn mSt) {k f len N W : Nat} (hk : k < 4) (hl : len ≤ 40) (hf : f < len) (hN : N ≤ 20) (hW : W = min N ((len - f) / 2)) {v2 t : Int32} (hv2 : In 0 2 v2) {pc mL mZ mC mB : Nat → Int32} (h1 : mL k = v2) (h2 : mZ k = nI len) (h3 : ∀ i, i < 40 → mC (40 * k + i) = pc i) (pl0 mS0 : Nat → Int32) : ∀ (d i fu fu' : Nat) (pl mSt : Nat → Int32), i + d = W → d < fu → d < fu' → MR nc ns hr kd rm ch lk pl mSt → CReal st wa dn mSt → (∀ q, 42 ≤ q → mSt q = mS0 q) →
    (∃ (j : Nat) (mSt' : Nat → Int32), f_X5_read_50 v2 (nI f) (nI N) (nI W) t 1 v2 (nI len) pc (nI ns) pl0 fu (nI i) = some ((-20) - nI j, t, pl0) ∧ f_X6_read_62 (nI k) v2 (nI f) (nI N) t mL mZ mC mB fu' 0 (nI i) (nI i) mSt = some ((-20) - nI j, t, mSt', mB) ∧ (∀ q, q < 61 → mSt' q = mB q) ∧ ∀ q, 61 ≤ q → mSt' q = mS0 q) ∨
    (f_X5_read_50 v2 (nI f) (nI N) (nI W) t 1 v2 (nI len) pc (nI ns) pl0 fu (nI i) = f_X5_read_111 v2 (nI f) (nI N) (nI W) t 1 v2 (nI len) pc (nI ns) 1000 0 pl0 ∧ ∃ pl' mSt', (∀ g, d < g → f_X5_read_111 v2 (nI f) (nI N) (nI W) t 1 v2 (nI len) pc (nI ns) g (nI i) pl = f_X5_read_111 v2 (nI f) (nI N) (nI W) t 1 v2 (nI len) pc (nI ns) (g - d) (nI W) pl') ∧ f_X6_read_62 (nI k) v2 (nI f) (nI N) t mL mZ mC mB fu' 0 (nI i) (nI i) mSt = f_X6_read_62 (nI k) v2 (nI f) (nI N) t mL mZ mC mB (fu' - d) 0 (nI W) (nI W) mSt' ∧ MR nc ns hr kd rm ch lk pl' mSt' ∧ CReal st wa dn mSt' ∧ ∀ q, 42 ≤ q → mSt' q = mS0 q) := by
  have hn4 : ¬ v2 = (-4) := fun q => by have := hv2.1; have z : (-4 : Int32).toInt = -4 := rfl; rw [q] at this; omega
  intro d
  induction d with
  | zero =>
    intro i fu fu' pl mSt g1 g2 g3 hM hC hF
    obtain ⟨fu, rfl⟩ : ∃ m, fu = m + 1 := ⟨fu - 1, by omega⟩
    have hi : i = W := by omega
    subst hi
    refine Or.inr ⟨by rw [f_X5_read_50, if_pos (nI_le (Nat.le_refl _) (by omega))], pl, mSt, fun g _ => rfl, rfl, hM, hC, hF⟩
  | succ d ih =>
    intro i fu fu' pl mSt g1 g2 g3 hM hC hF
    obtain ⟨fu, rfl⟩ : ∃ m, fu = m + 1 := ⟨fu - 1, by omega⟩
    obtain ⟨fu', rfl⟩ : ∃ m, fu' = m + 1 := ⟨fu' - 1, by omega⟩
    have hi : f + 2 * i + 1 < len := by omega
    have hiN : i < N := by omega
    have ek : 2 * nI i = nI (2 * i) := by rw [show (2 : Int32) = nI 2 from rfl, pk_mul]
    have eW : rWhy (mL k) v2 ((nI f).toInt + 2 * i) (mZ k).toInt = 0 := by
      unfold rWhy
      rw [h1, h2, nI_toInt (by omega), nI_toInt (by omega), if_neg hn4, if_pos rfl, if_pos (by omega)]
    have em : f_X6_read_62 (nI k) v2 (nI f) (nI N) t mL mZ mC mB (fu' + 1) 0 (nI i) (nI i) mSt = ob2 (f_X6_set (pc (f + 2 * i)) (pc (f + 2 * i + 1)) mSt) fun a m => if 0 ≤ a then f_X6_read_62 (nI k) v2 (nI f) (nI N) t mL mZ mC mB fu' 0 (nI (i + 1)) (nI (i + 1)) m else f_X6_read_208 (nI i) t mL mZ mC mB 1000 0 m := by
      rw [f_X6_read_62, if_neg (nI_ge hiN (by omega)), if_pos rfl, p6_r77 hk (by omega), eW]
      unfold f_X6_read_164 bd
      dsimp only
      rw [if_pos rfl, ek, show (40 : Int32) = nI 40 from rfl, pk_mul, nI_add, nI_add, nI_1, nI_1, ck_nI (by omega) (by decide), ck_nI (by omega) (by decide), nI_clamp (by omega), nI_clamp (by omega), show 40 * k + f + 2 * i = 40 * k + (f + 2 * i) by omega, h3 _ (by omega), show 40 * k + (f + 2 * i) + 1 = 40 * k + (f + 2 * i + 1) by omega, h3 _ (by omega)]
    obtain ⟨r, pl1, m1, -, s2, s3, s4, s5, s6⟩ := op_set hM hC (pc (f + 2 * i)) (pc (f + 2 * i + 1))
    rw [em, ob2_s s2]
    rw [f_X5_read_50, if_neg (nI_ge (show i < W by omega) (by omega)), ek, nI_add]
    unfold bd
    dsimp only
    rw [nI_1, nI_1, ck_nI (by omega) (by decide), ck_nI (by omega) (by decide), nI_clamp (by omega), nI_clamp (by omega)]
    have hs := h.2.1.1
    rcases s6 with ⟨q1, q2, q3, q4⟩ | ⟨q1, q2, q3⟩
    · rw [ob1_s (p5_sign_t (by omega) q1), i10, ob1_s (p5_told_t q2), i10, if_pos (show (0 : Int32) ≤ r from i_le.mpr q3)]
      have hF1 : ∀ q, 42 ≤ q → m1 q = mS0 q := fun q hq => by rw [s5 q hq]; exact hF q hq
      rcases ih (i + 1) fu fu' pl1 m1 (by omega) (by omega) (by omega) s3 s4 hF1 with hfail | ⟨w1, pl2, m2, w2, w3, w4, w5, w6⟩
      · exact Or.inl hfail
      · refine Or.inr ⟨w1, pl2, m2, fun g hg => ?_, by rw [w3, show fu' + 1 - (d + 1) = fu' - d by omega], w4, w5, w6⟩
        obtain ⟨g, rfl⟩ : ∃ m, g = m + 1 := ⟨g - 1, by omega⟩
        have w2' := w2 g (by omega)
        rw [show g + 1 - (d + 1) = g - d by omega, ← w2', q4]
        obtain ⟨j, hj, ej⟩ := In_cell (by omega) q1
        rw [f_X5_read_111, if_neg (nI_ge (show i < W by omega) (by omega)), ek, nI_add]
        unfold bd
        dsimp only
        rw [nI_1, nI_1, ck_nI (by omega) (by decide), ck_nI (by omega) (by decide), nI_clamp (by omega), nI_clamp (by omega), ej, ck_nI (by omega) (by decide)]
    · refine Or.inl ?_
      rw [q2, if_neg (show ¬ (0 : Int32) ≤ -1 by decide)]
      obtain ⟨m2, u1, u2, u3⟩ := p6_r208 (nI i) t mL mZ mC mB 61 0 1000 m1 (by omega) (by omega)
      refine ⟨i, m2, ?_, u1, fun q hq => u2 q (Nat.zero_le _) hq, fun q hq => by rw [u3 q (by omega), s5 q (by omega)]; exact hF q (by omega)⟩
      by_cases c : In 0 ((ns : Int) - 1) (pc (f + 2 * i))
      · rw [ob1_s (p5_sign_t (by omega) c), i10, ob1_s (p5_told_f (fun q => q1 ⟨c, q⟩)), i00]
      · rw [ob1_s (p5_sign_f (by omega) c), i00]
theorem op_read_bad {v1 v2 v4 : Int32} (hb : ¬ (In 0 3 v1 ∧ In 0 2 v2 ∧ In 0 20 v4)) (v3 t th la le s : Int32) (pc pl mSt mL mZ mC mB : Nat → Int32) : f_X5_read v1 v2 v3 v4 t th la le pc s pl = some ((-1), t, pl) ∧ f_X6_read v1 v2 v3 v4 t mSt mL mZ mC mB = some ((-1), t, mSt, mB) := by
  unfold f_X5_read f_X6_read
  by_cases c1 : In 0 3 v1
  · rw [ob1_s (p5_sheet_t c1), i10]
    by_cases c2 : In 0 2 v2
    · have c3 : ¬ In 0 20 v4 := fun q => hb ⟨c1, c2, q⟩
      rw [ob1_s (p5_lane_t c2), i10, ob1_s (p6_sheet_t c1 c2), i10, g4_f (K := 20) c3, ob1_s (p6_inv_f (lo := 0) (hi := 20) c3), i00]
      exact ⟨rfl, rfl⟩
    · rw [ob1_s (p5_lane_f c2), i00, ob1_s (p6_sheet_f (fun q => c2 q.2)), i00]
      exact ⟨rfl, rfl⟩
  · rw [ob1_s (p5_sheet_f c1), i00, ob1_s (p6_sheet_f (fun q => c1 q.1)), i00]
    exact ⟨rfl, rfl⟩
theorem op_read {nc ns hr : Nat} {kd rm ch lk pl mSt : Nat → Int32} (h : MR nc ns hr kd rm ch lk pl mSt) {st wa dn : Int32} (hC : CReal st wa dn mSt) {k : Nat} (hk : k < 4) {v2 v4 : Int32} (hv2 : In 0 2 v2) (hv4 : In 0 20 v4) (v3 t : Int32) {th la le : Int32} {pc mL mZ mC : Nat → Int32} (hH : HR k th la le pc mL mZ mC) (mB : Nat → Int32) : ∃ r t' pl' mSt' mB', f_X5_read (nI k) v2 v3 v4 t th la le pc (nI ns) pl = some (r, t', pl') ∧ f_X6_read (nI k) v2 v3 v4 t mSt mL mZ mC mB = some (r, t', mSt', mB') ∧ MR nc ns hr kd rm ch lk pl' mSt' ∧ CReal st wa dn mSt' ∧ ∀ q, 42 ≤ q → mSt' q = mSt q := by
  have h1 : In 0 3 (nI k) := (In_nI (by omega)).mpr (by omega)
  have hv2' := hv2
  have z4 : (-4 : Int32).toInt = -4 := rfl
  obtain ⟨N, N1, N2, rfl⟩ := In_nat hv4
  obtain ⟨mB', b1, b2⟩ := p6_r26 (nI k) v2 v3 (nI N) t mSt mL mZ mC 61 0 1000 mB (by omega) (by omega) (fun q hq => by omega)
  unfold f_X5_read f_X6_read
  rw [ob1_s (p5_sheet_t h1), i10, ob1_s (p5_lane_t hv2), i10, ob1_s (p6_sheet_t h1 hv2), i10, g4_t (K := 20) hv4, ob1_s (p6_inv_t (lo := 0) (hi := 20) hv4), i10, ck_nI hk (by decide), show (0 : Int32) = nI 0 from rfl, b1]
  -- nothing is read at all
  have none' : ∀ (T : Int32), (¬ N = 0 → rWhy (mL k) v2 (v3.toInt + 2 * (0 : Nat)) (mZ k).toInt = T ∧ ¬ T = 0 ∧ f_X3_tornBy v2 (nI 0) (nI N) th la = some T) → f_X3_wholePairs v2 v3 (nI N) th la le = some (nI 0) → ∃ r t' pl' mSt' mB'', (ob1 (f_X3_wholePairs v2 v3 (nI N) th la le) fun a_3 => f_X5_read_50 v2 v3 (nI N) a_3 t th la le pc (nI ns) pl 1000 (nI 0)) = some (r, t', pl') ∧ f_X6_read_62 (nI k) v2 v3 (nI N) t mL mZ mC mB' 1000 (nI 0) (nI 0) (nI 0) mSt = some (r, t', mSt', mB'') ∧ MR nc ns hr kd rm ch lk pl' mSt' ∧ CReal st wa dn mSt' ∧ ∀ q, 42 ≤ q → mSt' q = mSt q := by
    intro T hT hw
    rw [ob1_s hw, f_X5_read_50, if_pos (show nI 0 ≤ nI 0 by decide), f_X5_read_111, show (0 : Int32) = nI 0 from rfl, if_pos (show nI 0 ≤ nI 0 by decide)]
    by_cases c : N = 0
    · subst c
      unfold f_X3_tornBy
      rw [if_pos rfl, f_X6_read_62, if_pos (show nI 0 ≤ nI 0 by decide)]
      exact ⟨_, _, _, _, _, rfl, rfl, h, hC, fun _ _ => rfl⟩
    · obtain ⟨t1, t2, t3⟩ := hT c
      have q := p6_rstop (i := 0) (N := N) hk (by omega) (by omega) (by omega) v2 v3 0 t mSt mL mZ mC mB' 1000 (by omega) (by rw [t1]; exact t2)
      rw [show nI 0 = (0 : Int32) from rfl, t1] at q
      rw [ob1_s t3, show nI 0 = (0 : Int32) from rfl, q]
      exact ⟨_, _, _, _, _, rfl, rfl, h, hC, fun _ _ => rfl⟩
  have torn : ∀ w, ¬ N = w → w ≤ 20 → f_X3_tornBy v2 (nI w) (nI N) th la = (if th = 0 then some 1 else if la = v2 then some 2 else some 3) := fun w hw hw2 => by
    unfold f_X3_tornBy
    rw [if_neg (nI_ne_of (by omega) (by omega) (fun q => hw q.symm))]
  rcases id hH with ⟨rfl, b⟩ | ⟨rfl, b, c, d, e, f⟩
  · refine none' 1 (fun c => ⟨by unfold rWhy; rw [if_pos b], by decide, by rw [torn 0 c (by omega), if_pos rfl]⟩) ?_
    unfold f_X3_wholePairs
    rw [i00]
    rfl
  · have hn4 : ¬ la = (-4) := fun q => by have := c.1; rw [q] at this; omega
    obtain ⟨len, l1, l2, rfl⟩ := In_nat e
    by_cases c1 : la = v2
    · subst c1
      have zero : (0 : Int32).toInt = 0 := rfl
      by_cases c2 : In 0 ((len : Int) - 1) v3
      · obtain ⟨f0, f1, f2, rfl⟩ := In_nat c2
        have hw : f_X3_wholePairs la (nI f0) (nI N) 1 la (nI len) = some (nI (min N ((len - f0) / 2))) := by
          unfold f_X3_wholePairs
          rw [i10, if_pos rfl, g3'_t c2 (by omega), pk_sub (by omega), show (2 : Int32) = nI 2 from rfl, pk_div (by omega) (by omega) (by omega)]
          by_cases q : (len - f0) / 2 < N
          · rw [if_pos (nI_lt q (by omega)), Nat.min_eq_right (by omega)]
          · rw [if_neg (nI_nlt (by omega) (by omega)), Nat.min_eq_left (by omega)]
        rw [ob1_s hw]
        generalize hWW : min N ((len - f0) / 2) = W at hw
        have hWN : W ≤ N := by omega
        rcases read_loop h hC (mB := mB') hk (show len ≤ 40 by omega) (show f0 < len by omega) (show N ≤ 20 by omega) hWW.symm (t := t) hv2 b d f pl mSt W 0 1000 1000 pl mSt (by omega) (by omega) (by omega) h hC (fun _ _ => rfl) with ⟨j, m', e1, e2, e3, e4⟩ | ⟨e1, pl', m', e2, e3, e4, e5, e6⟩
        · have hq : ∀ q, q < 61 → m' q = mSt q := fun q hq => (e3 q hq).trans (b2 q hq)
          refine ⟨_, _, _, _, _, e1, e2, MR_st h hq, CReal_cg hC hq, fun q _ => ?_⟩
          by_cases c : q < 61
          · exact hq q c
          · exact e4 q (by omega)
        · have e2 := e2 1000 (by omega)
          rw [show (0 : Int32) = nI 0 from rfl] at e1
          rw [show nI 0 = (0 : Int32) from rfl] at e3
          rw [e1, e2, e3]
          obtain ⟨g, hg⟩ : ∃ g, 1000 - W = g + 1 := ⟨999 - W, by omega⟩
          rw [hg, f_X5_read_111, if_pos (nI_le (Nat.le_refl _) (by omega))]
          by_cases q : N = W
          · subst q
            unfold f_X3_tornBy
            rw [if_pos rfl, f_X6_read_62, if_pos (nI_le (Nat.le_refl _) (by omega))]
            exact ⟨_, _, _, _, _, rfl, rfl, e4, e5, e6⟩
          · have hT : rWhy (mL k) la ((nI f0).toInt + 2 * W) (mZ k).toInt = 2 := by
              unfold rWhy
              rw [b, d, nI_toInt (by omega), nI_toInt (by omega), if_neg hn4, if_pos rfl, if_neg (by omega)]
            rw [torn W q (by omega), i10, if_pos rfl, p6_rstop (i := W) hk (by omega) (by omega) (by omega) la (nI f0) (nI W) t m' mL mZ mC mB' (g + 1) (by omega) (by rw [hT]; decide), hT]
            exact ⟨_, _, _, _, _, rfl, rfl, e4, e5, e6⟩
      · refine none' 2 (fun c => ⟨?_, by decide, by rw [torn 0 c (by omega), i10, if_pos rfl]⟩) ?_
        · unfold rWhy
          rw [b, d, nI_toInt (by omega), if_neg hn4, if_pos rfl, if_neg (by unfold In at c2; omega)]
        · unfold f_X3_wholePairs
          rw [i10, if_pos rfl, g3'_f c2 (by omega)]
          rfl
    · refine none' 3 (fun c => ⟨by unfold rWhy; rw [b, if_neg hn4, if_neg c1], by decide, by rw [torn 0 c (by omega), i10, if_neg c1]⟩) ?_
      unfold f_X3_wholePairs
      rw [i10, if_neg c1]
      rfl
