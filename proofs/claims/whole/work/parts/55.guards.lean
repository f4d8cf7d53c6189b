theorem i64_32 (v : Int32) : v.toInt64.toInt = v.toInt := Int32.toInt_toInt64 v
def In (lo hi : Int) (v : Int32) : Prop := lo ≤ v.toInt ∧ v.toInt ≤ hi
theorem In_nat {hi : Int} {v : Int32} (h : In 0 hi v) : ∃ n : Nat, (n : Int) ≤ hi ∧ n < 2 ^ 31 ∧ v = nI n := by
  have r := i_rng v
  refine ⟨v.toInt.toNat, by have := h.1; have := h.2; omega, by have := h.1; omega, ?_⟩
  refine i_eq.mpr ?_
  rw [nI_toInt (by have := h.1; omega)]
  have := h.1
  omega
theorem In_nI {lo hi : Int} {n : Nat} (hn : n < 2 ^ 31) : In lo hi (nI n) ↔ lo ≤ (n : Int) ∧ (n : Int) ≤ hi := by
  unfold In
  rw [nI_toInt hn]
theorem z_lt0 {v : Int32} : v < 0 ↔ v.toInt < 0 := by rw [i_lt]; rfl
theorem g2_t {α : Type} {v K : Int32} {a b : α} (h : In 0 K.toInt v) : (if v < 0 then a else (if K < v then a else b)) = b := by
  rw [if_neg (fun q => by have := z_lt0.mp q; have := h.1; omega), if_neg (fun q => by have := i_lt.mp q; have := h.2; omega)]
theorem g2_f {α : Type} {v K : Int32} {a b : α} (h : ¬ In 0 K.toInt v) : (if v < 0 then a else (if K < v then a else b)) = a := by
  by_cases c : v < 0
  · rw [if_pos c]
  · rw [if_neg c]
    have c' : ¬ v.toInt < 0 := fun q => c (z_lt0.mpr q)
    rw [if_pos (i_lt.mpr (by unfold In at h; omega))]
theorem g3_t {α : Type} {v K : Int32} {a b : α} (h : In 0 (K.toInt - 1) v) : (if v < 0 then a else (if K ≤ v then a else b)) = b := by
  rw [if_neg (fun q => by have := z_lt0.mp q; have := h.1; omega), if_neg (fun q => by have := i_le.mp q; have := h.2; omega)]
theorem g3_f {α : Type} {v K : Int32} {a b : α} (h : ¬ In 0 (K.toInt - 1) v) : (if v < 0 then a else (if K ≤ v then a else b)) = a := by
  by_cases c : v < 0
  · rw [if_pos c]
  · rw [if_neg c]
    have c' : ¬ v.toInt < 0 := fun q => c (z_lt0.mpr q)
    rw [if_pos (i_le.mpr (by unfold In at h; omega))]
/-- a < 0 ? x : a <= K ? y : x -/
theorem g4_t {α : Type} {v K : Int32} {a b : α} (h : In 0 K.toInt v) : (if v < 0 then a else (if v ≤ K then b else a)) = b := by
  rw [if_neg (fun q => by have := z_lt0.mp q; have := h.1; omega), if_pos (i_le.mpr h.2)]
theorem g4_f {α : Type} {v K : Int32} {a b : α} (h : ¬ In 0 K.toInt v) : (if v < 0 then a else (if v ≤ K then b else a)) = a := by
  by_cases c : v < 0
  · rw [if_pos c]
  · rw [if_neg c]
    have c' : ¬ v.toInt < 0 := fun q => c (z_lt0.mpr q)
    rw [if_neg (fun q => h ⟨by omega, i_le.mp q⟩)]
theorem p5_far_t {v : Int32} (h : In 0 200 v) : f_X5_isFar v = some 1 := g2_t (K := 200) h
theorem p5_far_f {v : Int32} (h : ¬ In 0 200 v) : f_X5_isFar v = some 0 := g2_f (K := 200) h
theorem p5_told_t {v : Int32} (h : In 0 18 v) : f_X5_isSignValue v = some 1 := g2_t (K := 18) h
theorem p5_told_f {v : Int32} (h : ¬ In 0 18 v) : f_X5_isSignValue v = some 0 := g2_f (K := 18) h
theorem p5_sheet_t {v : Int32} (h : In 0 3 v) : f_X5_isSheet v = some 1 := g3_t (K := 4) h
theorem p5_sheet_f {v : Int32} (h : ¬ In 0 3 v) : f_X5_isSheet v = some 0 := g3_f (K := 4) h
theorem p5_lane_t {v : Int32} (h : In 0 2 v) : f_X5_isLane v = some 1 := g3_t (K := 3) h
theorem p5_lane_f {v : Int32} (h : ¬ In 0 2 v) : f_X5_isLane v = some 0 := g3_f (K := 3) h
theorem p5_half_t {v : Int32} (h : In 0 1 v) : f_X5_isHalf v = some 1 := by
  have z0 : (0 : Int32).toInt = 0 := rfl
  have z1 : (1 : Int32).toInt = 1 := rfl
  unfold f_X5_isHalf
  by_cases c : v = 0
  · rw [if_pos c]
  · rw [if_neg c, if_pos (i_eq.mpr (by have c' : ¬ v.toInt = (0 : Int32).toInt := fun q => c (i_eq.mpr q); have := h.1; have := h.2; omega))]
theorem p5_half_f {v : Int32} (h : ¬ In 0 1 v) : f_X5_isHalf v = some 0 := by
  unfold f_X5_isHalf
  rw [if_neg (fun q => h (by rw [q]; unfold In; decide)), if_neg (fun q => h (by rw [q]; unfold In; decide))]
theorem nI_m1 {n : Nat} (h : n < 2 ^ 31) : (nI n - 1).toInt = (n : Int) - 1 := by
  have e := nI_toInt h
  have z1 : (1 : Int32).toInt = 1 := rfl
  rw [i_sub (by omega) (by omega)]
  omega
theorem p5_cell_t {v : Int32} {nc : Nat} (hc : nc < 2 ^ 31) (h : In 0 ((nc : Int) - 1) v) : f_X5_isCell v (nI nc) = some 1 := g3_t (K := nI nc) (by rw [nI_toInt hc]; exact h)
theorem p5_cell_f {v : Int32} {nc : Nat} (hc : nc < 2 ^ 31) (h : ¬ In 0 ((nc : Int) - 1) v) : f_X5_isCell v (nI nc) = some 0 := g3_f (K := nI nc) (by rw [nI_toInt hc]; exact h)
theorem p5_sign_t {v : Int32} {nc : Nat} (hc : nc < 2 ^ 31) (h : In 0 ((nc : Int) - 1) v) : f_X5_isSign v (nI nc) = some 1 := g3_t (K := nI nc) (by rw [nI_toInt hc]; exact h)
theorem p5_sign_f {v : Int32} {nc : Nat} (hc : nc < 2 ^ 31) (h : ¬ In 0 ((nc : Int) - 1) v) : f_X5_isSign v (nI nc) = some 0 := g3_f (K := nI nc) (by rw [nI_toInt hc]; exact h)
theorem p6_in_t {a b c : Int64} (h : b.toInt ≤ a.toInt ∧ a.toInt ≤ c.toInt) : f_X6_in a b c = some 1 := by
  unfold f_X6_in
  rw [if_neg (fun q => by have := Int64.lt_iff_toInt_lt.mp ((lg_cmp_lt _ _).mp q); omega), if_neg (fun q => by have := Int64.lt_iff_toInt_lt.mp ((lg_cmp_gt _ _).mp q); omega)]
theorem p6_in_f {a b c : Int64} (h : ¬ (b.toInt ≤ a.toInt ∧ a.toInt ≤ c.toInt)) : f_X6_in a b c = some 0 := by
  unfold f_X6_in
  by_cases c1 : a < b
  · rw [if_pos ((lg_cmp_lt _ _).mpr c1)]
  · rw [if_neg (fun q => c1 ((lg_cmp_lt _ _).mp q)), if_pos ((lg_cmp_gt _ _).mpr (Int64.lt_iff_toInt_lt.mpr (by
      have c' : ¬ a.toInt < b.toInt := fun q => c1 (Int64.lt_iff_toInt_lt.mpr q)
      omega)))]
theorem p6_inv_t {v : Int32} {lo hi : Int64} (h : In lo.toInt hi.toInt v) : f_X6_in v.toInt64 lo hi = some 1 := p6_in_t (by rw [i64_32]; exact h)
theorem p6_inv_f {v : Int32} {lo hi : Int64} (h : ¬ In lo.toInt hi.toInt v) : f_X6_in v.toInt64 lo hi = some 0 := p6_in_f (by rw [i64_32]; exact h)
theorem p6_inw_t {v w : Int32} {lo : Int64} (h : In lo.toInt w.toInt v) : f_X6_in v.toInt64 lo w.toInt64 = some 1 := p6_in_t (by rw [i64_32, i64_32]; exact h)
theorem p6_inw_f {v w : Int32} {lo : Int64} (h : ¬ In lo.toInt w.toInt v) : f_X6_in v.toInt64 lo w.toInt64 = some 0 := p6_in_f (by rw [i64_32, i64_32]; exact h)
theorem cz1 {α : Type} {X : Option α} : cz 1 X = X := if_pos (Or.inr rfl)
theorem cz0 {α : Type} {X : Option α} : cz 0 X = X := if_pos (Or.inl rfl)
theorem p6_far_t {v : Int32} (h : In 0 200 v) : f_X6_isFar v = some 1 := by unfold f_X6_isFar; rw [ob1_s (p6_inv_t (hi := 200) (lo := 0) h), cz1]
theorem p6_far_f {v : Int32} (h : ¬ In 0 200 v) : f_X6_isFar v = some 0 := by unfold f_X6_isFar; rw [ob1_s (p6_inv_f (hi := 200) (lo := 0) h), cz0]
theorem p6_part_t {v : Int32} (h : In 0 1 v) : f_X6_isPart v = some 1 := by unfold f_X6_isPart; rw [ob1_s (p6_inv_t (hi := 1) (lo := 0) h), cz1]
theorem p6_part_f {v : Int32} (h : ¬ In 0 1 v) : f_X6_isPart v = some 0 := by unfold f_X6_isPart; rw [ob1_s (p6_inv_f (hi := 1) (lo := 0) h), cz0]
theorem p6_told_t {v : Int32} (h : In 0 18 v) : f_X6_isTold v = some 1 := by unfold f_X6_isTold; rw [ob1_s (p6_inv_t (hi := 18) (lo := 0) h), cz1]
theorem p6_told_f {v : Int32} (h : ¬ In 0 18 v) : f_X6_isTold v = some 0 := by unfold f_X6_isTold; rw [ob1_s (p6_inv_f (hi := 18) (lo := 0) h), cz0]
theorem p6_unit_t {v : Int32} {nc : Nat} {m : Nat → Int32} (hm : m 20 = nI nc) (hc : nc < 2 ^ 31) (h : In 0 ((nc : Int) - 1) v) : f_X6_isUnit v m = some 1 := by
  unfold f_X6_isUnit
  rw [show (20 : Int32) = nI 20 from rfl, ck_nI (by decide) (by decide), nI_clamp (by decide), hm, ob1_s (p6_inw_t (lo := 0) (by rw [nI_m1 hc]; exact h)), cz1]
theorem p6_unit_f {v : Int32} {nc : Nat} {m : Nat → Int32} (hm : m 20 = nI nc) (hc : nc < 2 ^ 31) (h : ¬ In 0 ((nc : Int) - 1) v) : f_X6_isUnit v m = some 0 := by
  unfold f_X6_isUnit
  rw [show (20 : Int32) = nI 20 from rfl, ck_nI (by decide) (by decide), nI_clamp (by decide), hm, ob1_s (p6_inw_f (lo := 0) (by rw [nI_m1 hc]; exact h)), cz0]
theorem p6_sign_t {v : Int32} {nc : Nat} {m : Nat → Int32} (hm : m 37 = nI nc) (hc : nc < 2 ^ 31) (h : In 0 ((nc : Int) - 1) v) : f_X6_isSign v m = some 1 := by
  unfold f_X6_isSign
  rw [show (37 : Int32) = nI 37 from rfl, ck_nI (by decide) (by decide), nI_clamp (by decide), hm, ob1_s (p6_inw_t (lo := 0) (by rw [nI_m1 hc]; exact h)), cz1]
theorem p6_sign_f {v : Int32} {nc : Nat} {m : Nat → Int32} (hm : m 37 = nI nc) (hc : nc < 2 ^ 31) (h : ¬ In 0 ((nc : Int) - 1) v) : f_X6_isSign v m = some 0 := by
  unfold f_X6_isSign
  rw [show (37 : Int32) = nI 37 from rfl, ck_nI (by decide) (by decide), nI_clamp (by decide), hm, ob1_s (p6_inw_f (lo := 0) (by rw [nI_m1 hc]; exact h)), cz0]
/-! copies -/
def c5 (f g : Nat → Int32) : Nat → Int32 := va_cpy f g (0 : Int32).toNatClampNeg (0 : Int32).toNatClampNeg (5 : Int32).toNatClampNeg
def c6 (f g : Nat → Int32) : Nat → Int32 := va_cpy f g (0 : Int32).toNatClampNeg (0 : Int32).toNatClampNeg (6 : Int32).toNatClampNeg
def c16 (f g : Nat → Int32) : Nat → Int32 := va_cpy f g (0 : Int32).toNatClampNeg (0 : Int32).toNatClampNeg (16 : Int32).toNatClampNeg
theorem cpy_i (f g : Nat → Int32) {N n : Nat} {v : Int32} (hv : v = nI N) (hN : N < 2 ^ 31) (h : n < N) : va_cpy f g (0 : Int32).toNatClampNeg (0 : Int32).toNatClampNeg v.toNatClampNeg n = f n := by
  rw [hv, nI_clamp hN]
  have e := pk_cpy_in (f := f) (g := g) (sp := 0) (dp := 0) (n := N) (j := n) (Nat.zero_le _) (by omega)
  rw [show (0 : Int32).toNatClampNeg = 0 from rfl, e, Nat.zero_add, Nat.sub_zero]
theorem c5_i (f g : Nat → Int32) {n : Nat} (h : n < 5) : c5 f g n = f n := cpy_i f g (N := 5) rfl (by decide) h
theorem c6_i (f g : Nat → Int32) {n : Nat} (h : n < 6) : c6 f g n = f n := cpy_i f g (N := 6) rfl (by decide) h
theorem c16_i (f g : Nat → Int32) {n : Nat} (h : n < 16) : c16 f g n = f n := cpy_i f g (N := 16) rfl (by decide) h
theorem p5_start (a1 a2 a3 a4 a5 a6 a7 : Int32) (k1 k2 k3 k4 k5 : Nat → Int32) (b1 b2 b3 b4 b5 b6 : Int32) (q1 q2 q3 q4 q5 : Nat → Int32) : f_X5_startTrial a1 a2 a3 a4 a5 a6 a7 k1 k2 k3 k4 k5 b1 b2 b3 b4 b5 b6 q1 q2 q3 q4 q5 = some (b1, b2, b3, 0, 0, 0, (-4), c5 q1 k1, c5 q2 k2, c5 q3 k3, c5 q4 k4, c16 q5 k5) := rfl
theorem p6_starts_loop (br dm sm wm : Int32) (st : Nat → Int32) : ∀ (d i n : Nat) (m : Nat → Int32), i + d = 61 → d < n → (∀ k, k < i → m k = st k) → ∃ m', f_X6_starts_2 br dm sm wm st n (nI i) m = some ((-4), 0, 0, 0, m') ∧ ∀ k, k < 61 → m' k = st k := by
  intro d
  induction d with
  | zero =>
    intro i n m h1 h2 h3
    obtain ⟨n, rfl⟩ : ∃ m, n = m + 1 := ⟨n - 1, by omega⟩
    refine ⟨m, ?_, fun k hk => h3 k (by omega)⟩
    rw [f_X6_starts_2, show (61 : Int32) = nI 61 from rfl, if_pos (nI_le (by omega) (by omega))]
  | succ d ih =>
    intro i n m h1 h2 h3
    obtain ⟨n, rfl⟩ : ∃ m, n = m + 1 := ⟨n - 1, by omega⟩
    obtain ⟨m', e1, e2⟩ := ih (i + 1) n (upd m i (st i)) (by omega) (by omega) (fun k hk => by
      by_cases c : k = i
      · subst c; exact upd_s
      · rw [upd_n c]; exact h3 k (by omega))
    refine ⟨m', ?_, e2⟩
    rw [f_X6_starts_2, show (61 : Int32) = nI 61 from rfl, if_neg (nI_ge (by omega) (by omega)), ck_nI (by omega) (by decide), ck_nI (by omega) (by decide), nI_clamp (by omega), nI_1, e1]
theorem p6_starts (br dm sm wm : Int32) (st m : Nat → Int32) : ∃ m', f_X6_starts br dm sm wm st m = some ((-4), 0, 0, 0, m') ∧ ∀ k, k < 61 → m' k = st k := by
  unfold f_X6_starts
  exact p6_starts_loop br dm sm wm st 61 0 1000 m (by omega) (by omega) (fun k h => by omega)
theorem p6_settles_loop (now : Nat → Int32) : ∀ (d i n : Nat) (m : Nat → Int32), i + d = 61 → d < n → ∃ m', f_X6_settles_2 now n (nI i) m = some m' ∧ (∀ k, i ≤ k → k < 61 → m' k = now k) ∧ ∀ k, (k < i ∨ 61 ≤ k) → m' k = m k := by
  intro d
  induction d with
  | zero =>
    intro i n m h1 h2
    obtain ⟨n, rfl⟩ : ∃ m, n = m + 1 := ⟨n - 1, by omega⟩
    refine ⟨m, ?_, fun k g1 g2 => by omega, fun k _ => rfl⟩
    rw [f_X6_settles_2, show (61 : Int32) = nI 61 from rfl, if_pos (nI_le (by omega) (by omega))]
  | succ d ih =>
    intro i n m h1 h2
    obtain ⟨n, rfl⟩ : ∃ m, n = m + 1 := ⟨n - 1, by omega⟩
    obtain ⟨m', e1, e2, e3⟩ := ih (i + 1) n (upd m i (now i)) (by omega) (by omega)
    refine ⟨m', ?_, fun k g1 g2 => ?_, fun k g => ?_⟩
    · rw [f_X6_settles_2, show (61 : Int32) = nI 61 from rfl, if_neg (nI_ge (by omega) (by omega)), ck_nI (by omega) (by decide), ck_nI (by omega) (by decide), nI_clamp (by omega), nI_1, e1]
    · by_cases c : k = i
      · subst c; rw [e3 k (Or.inl (by omega)), upd_s]
      · exact e2 k (by omega) g2
    · rw [e3 k (by omega), upd_n (by omega)]
theorem p6_settles (st now : Nat → Int32) : ∃ m', f_X6_settles st now = some m' ∧ (∀ k, k < 61 → m' k = now k) ∧ ∀ k, 61 ≤ k → m' k = st k := by
  unfold f_X6_settles
  obtain ⟨m', e1, e2, e3⟩ := p6_settles_loop now 61 0 1000 st (by omega) (by omega)
  exact ⟨m', e1, fun k h => e2 k (Nat.zero_le _) h, fun k h => e3 k (Or.inr h)⟩
theorem RA_cg {nc : Nat} {kd rm ch lk m kd' rm' ch' lk' m' : Nat → Int32} (hR : RA nc kd rm ch lk m) (hc : nc ≤ 5) (h1 : ∀ j, j < 5 → kd' j = kd j) (h2 : ∀ j, j < 5 → rm' j = rm j) (h3 : ∀ j, j < 5 → ch' j = ch j) (h4 : ∀ j, j < 5 → lk' j = lk j) (hm : ∀ k, k < 61 → m' k = m k) : RA nc kd' rm' ch' lk' m' := by
  refine ⟨by rw [hm 20 (by omega)]; exact hR.1, fun j hj => ?_⟩
  rw [h1 j (by omega), h2 j (by omega), h3 j (by omega), h4 j (by omega), hm (4 * j) (by omega), hm (4 * j + 1) (by omega), hm (4 * j + 2) (by omega), hm (4 * j + 3) (by omega)]
  exact hR.2 j hj
theorem WR_cg {nc : Nat} {kd rm ch lk kd' rm' ch' lk' : Nat → Int32} (hW : WR nc kd rm ch lk) (h1 : ∀ j, j < 5 → kd' j = kd j) (h2 : ∀ j, j < 5 → rm' j = rm j) (h3 : ∀ j, j < 5 → ch' j = ch j) (h4 : ∀ j, j < 5 → lk' j = lk j) : WR nc kd' rm' ch' lk' := by
  have hc := hW.1
  refine ⟨hc, fun j hj => ?_⟩
  rw [h1 j (by omega), h2 j (by omega), h3 j (by omega), h4 j (by omega)]
  exact hW.2 j hj
theorem WP_cg {ns : Nat} {pl pl' : Nat → Int32} (hP : WP ns pl) (h : ∀ j, j < 16 → pl' j = pl j) : WP ns pl' := by
  have := hP.1
  exact ⟨hP.1, fun i hi => by rw [h i (by omega)]; exact hP.2 i hi⟩
/-- a row of the class against the reference's numbers, both in order -/
def MR (nc ns hr : Nat) (kd rm ch lk pl m : Nat → Int32) : Prop := WR nc kd rm ch lk ∧ WP ns pl ∧ RR nc ns hr kd rm ch lk pl m ∧ hr ≤ 9999
theorem MR_cg {nc ns hr : Nat} {kd rm ch lk pl m kd' rm' ch' lk' pl' m' : Nat → Int32} (h : MR nc ns hr kd rm ch lk pl m) (h1 : ∀ j, j < 5 → kd' j = kd j) (h2 : ∀ j, j < 5 → rm' j = rm j) (h3 : ∀ j, j < 5 → ch' j = ch j) (h4 : ∀ j, j < 5 → lk' j = lk j) (h5 : ∀ j, j < 16 → pl' j = pl j) (hm : ∀ k, k < 61 → m' k = m k) : MR nc ns hr kd' rm' ch' lk' pl' m' := by
  obtain ⟨hW, hP, ⟨r1, r2, r3, r4⟩, hh⟩ := h
  have := hP.1
  refine ⟨WR_cg hW h1 h2 h3 h4, WP_cg hP h5, ⟨RA_cg r1 hW.1 h1 h2 h3 h4 hm, by rw [hm 37 (by omega)]; exact r2, fun i hi => by rw [h5 i (by omega), hm (21 + i) (by omega)]; exact r3 i hi, by rw [hm 38 (by omega)]; exact r4⟩, hh⟩
/-- a trial begins: both sides hold the same row -/
theorem MR_start {nc ns hr : Nat} {kd rm ch lk pl st m' : Nat → Int32} (h : MR nc ns hr kd rm ch lk pl st) (k1 k2 k3 k4 k5 : Nat → Int32) (hm : ∀ k, k < 61 → m' k = st k) : MR nc ns hr (c5 kd k1) (c5 rm k2) (c5 ch k3) (c5 lk k4) (c16 pl k5) m' :=
  MR_cg h (fun j hj => c5_i _ _ hj) (fun j hj => c5_i _ _ hj) (fun j hj => c5_i _ _ hj) (fun j hj => c5_i _ _ hj) (fun j hj => c16_i _ _ hj) hm
theorem CTry_0 : CTry 0 0 0 0 0 0 0 := ⟨rfl, rfl, rfl, by decide, by decide, by decide, by decide, by decide, by decide⟩
/-- a trial of n hours on both sides -/
theorem trial_hours {nc ns hr : Nat} {kd rm ch lk pl m : Nat → Int32} (h : MR nc ns hr kd rm ch lk pl m) (br : Int32) {n : Nat} (hn : n ≤ 200) (is : Int32) : ∃ (D st wa is' : Int32) (ch' m' : Nat → Int32), f_X1_passHours (nI n) (nI nc) (nI ns) (nI hr) 0 0 0 br kd rm ch lk pl = some (D, nI (hr + n), st, wa, D, ch') ∧ f_X6_hoursGo (nI n) br 0 0 0 is m = some (D, st, wa, is', m') ∧ WR nc kd rm ch' lk ∧ RR nc ns (hr + n) kd rm ch' lk pl m' ∧ 0 ≤ D.toInt ∧ D.toInt ≤ 9 * n := by
  obtain ⟨hW, hP, hR, hh⟩ := h
  obtain ⟨D, st', wa', dn', sm', wm', is', ch', m', e1, e2, e3, e4, -, e6, -⟩ := hours_rel hW hP hR br (n := n) (by omega) (by omega) 0 0 0 0 0 0 is
  have q := e6 0 (by omega) CTry_0
  rw [Int32.zero_add] at q e2
  obtain ⟨q1, q2, q3, q4, q5, q6, q7, q8, q9⟩ := q
  subst q1; subst q2; subst q3
  exact ⟨dn', st', wa', is', ch', m', e1, e2, e3, e4, by omega, by omega⟩
theorem p1_sum_loop {nc : Nat} (hc : nc ≤ 5) {kd rm ch lk m : Nat → Int32} (hR : RA nc kd rm ch lk m) : ∀ (d i n n' : Nat) (a : Int32), i + d = nc → d < n → d < n' → ∃ r, f_X1_chargesSummed_4 (nI nc) ch n a (nI i) = some r ∧ f_X6_sumOf_4 2 m n' a (nI i) = some r := by
  intro d
  induction d with
  | zero =>
    intro i n n' a h1 h2 h3
    obtain ⟨n, rfl⟩ : ∃ m, n = m + 1 := ⟨n - 1, by omega⟩
    obtain ⟨n', rfl⟩ : ∃ m, n' = m + 1 := ⟨n' - 1, by omega⟩
    refine ⟨a, ?_, ?_⟩
    · rw [f_X1_chargesSummed_4, if_pos (nI_le (by omega) (by omega))]
    · rw [f_X6_sumOf_4, show (20 : Int32) = nI 20 from rfl, ck_nI (by decide) (by decide), nI_clamp (by decide), hR.1, if_pos (nI_le (by omega) (by omega))]
  | succ d ih =>
    intro i n n' a h1 h2 h3
    obtain ⟨n, rfl⟩ : ∃ m, n = m + 1 := ⟨n - 1, by omega⟩
    obtain ⟨n', rfl⟩ : ∃ m, n' = m + 1 := ⟨n' - 1, by omega⟩
    obtain ⟨r, e1, e2⟩ := ih (i + 1) n n' (a + ch i) (by omega) (by omega) (by omega)
    refine ⟨r, ?_, ?_⟩
    · rw [f_X1_chargesSummed_4, if_neg (nI_ge (by omega) (by omega)), ck_nI (by omega) (by decide), nI_clamp (by omega), nI_1]
      exact e1
    · rw [f_X6_sumOf_4, show (20 : Int32) = nI 20 from rfl, ck_nI (by decide) (by decide), nI_clamp (by decide), hR.1, if_neg (nI_ge (by omega) (by omega)), ob1_s (p6_of2 (by omega) m), ← (hR.2 i (by omega)).2.2.1, nI_1]
      exact e2
theorem sum_rel {nc : Nat} (hc : nc ≤ 5) {kd rm ch lk m : Nat → Int32} (hR : RA nc kd rm ch lk m) : ∃ r, f_X1_chargesSummed (nI nc) ch = some r ∧ f_X6_sumOf 2 m = some r := p1_sum_loop hc hR nc 0 1000 1000 0 (by omega) (by omega) (by omega)
theorem p1_rsum_loop {nc : Nat} (hc : nc ≤ 5) {kd rm ch lk m : Nat → Int32} (hR : RA nc kd rm ch lk m) : ∀ (d i n n' : Nat) (a : Int32), i + d = nc → d < n → d < n' → ∃ r, f_X1_roomsSummed_4 (nI nc) rm n a (nI i) = some r ∧ f_X6_sumOf_4 1 m n' a (nI i) = some r := by
  intro d
  induction d with
  | zero =>
    intro i n n' a h1 h2 h3
    obtain ⟨n, rfl⟩ : ∃ m, n = m + 1 := ⟨n - 1, by omega⟩
    obtain ⟨n', rfl⟩ : ∃ m, n' = m + 1 := ⟨n' - 1, by omega⟩
    refine ⟨a, ?_, ?_⟩
    · rw [f_X1_roomsSummed_4, if_pos (nI_le (by omega) (by omega))]
    · rw [f_X6_sumOf_4, show (20 : Int32) = nI 20 from rfl, ck_nI (by decide) (by decide), nI_clamp (by decide), hR.1, if_pos (nI_le (by omega) (by omega))]
  | succ d ih =>
    intro i n n' a h1 h2 h3
    obtain ⟨n, rfl⟩ : ∃ m, n = m + 1 := ⟨n - 1, by omega⟩
    obtain ⟨n', rfl⟩ : ∃ m, n' = m + 1 := ⟨n' - 1, by omega⟩
    obtain ⟨r, e1, e2⟩ := ih (i + 1) n n' (a + rm i) (by omega) (by omega) (by omega)
    refine ⟨r, ?_, ?_⟩
    · rw [f_X1_roomsSummed_4, if_neg (nI_ge (by omega) (by omega)), ck_nI (by omega) (by decide), nI_clamp (by omega), nI_1]
      exact e1
    · rw [f_X6_sumOf_4, show (20 : Int32) = nI 20 from rfl, ck_nI (by decide) (by decide), nI_clamp (by decide), hR.1, if_neg (nI_ge (by omega) (by omega)), ob1_s (p6_of1 (by omega) m), ← (hR.2 i (by omega)).2.1, nI_1]
      exact e2
theorem rsum_rel {nc : Nat} (hc : nc ≤ 5) {kd rm ch lk m : Nat → Int32} (hR : RA nc kd rm ch lk m) : ∃ r, f_X1_roomsSummed (nI nc) rm = some r ∧ f_X6_sumOf 1 m = some r := p1_rsum_loop hc hR nc 0 1000 1000 0 (by omega) (by omega) (by omega)
