/-! odds -/
theorem lN_0 : (0 : Int64) = lN 0 := rfl
theorem gcd_half {a b : Nat} (hb : 0 < b) (hr : 0 < a % b) : 2 * (b % (a % b)) < b := by
  have h1 := Nat.mod_lt a hb
  have h2 := Nat.mod_lt b hr
  have h3 := Nat.div_add_mod b (a % b)
  have h4 : 0 < b / (a % b) := Nat.div_pos (by omega) hr
  have h5 : a % b ≤ a % b * (b / (a % b)) := Nat.le_mul_of_pos_right _ h4
  omega
theorem p6_gcd : ∀ (k a b f : Nat), b < 2 ^ k → a < 2 ^ 62 → b < 2 ^ 62 → 2 * k < f → f_X6_common_6 f (lN a) (lN b) = some (lN (Nat.gcd a b)) := by
  intro k
  induction k with
  | zero =>
    intro a b f h1 h2 h3 h4
    obtain ⟨f, rfl⟩ : ∃ m, f = m + 1 := ⟨f - 1, by omega⟩
    have : b = 0 := by omega
    subst this
    rw [f_X6_common_6, if_pos ((lg_cmp_eq (lN 0) 0).mpr rfl), Nat.gcd_zero_right]
  | succ k ih =>
    intro a b f h1 h2 h3 h4
    obtain ⟨f, rfl⟩ : ∃ m, f = m + 2 := ⟨f - 2, by omega⟩
    have hp : 2 ^ (k + 1) = 2 * 2 ^ k := by rw [Nat.pow_succ]; omega
    have step : ∀ (g x y : Nat), x < 2 ^ 62 → y < 2 ^ 62 → 0 < y → f_X6_common_6 (g + 1) (lN x) (lN y) = f_X6_common_6 g (lN y) (lN (x % y)) := fun g x y g1 g2 g3 => by
      have ne : ¬ lN y = 0 := fun e => by have := (pk_lEQ (by omega) (by omega)).mp (e.trans lN_0); omega
      rw [f_X6_common_6, if_neg (fun e => ne ((lg_cmp_eq _ _).mp e))]
      unfold dzl bd
      rw [if_neg ne, pk_lRem (by omega) g3 (by omega)]
    by_cases c : b = 0
    · subst c
      rw [f_X6_common_6, if_pos ((lg_cmp_eq (lN 0) 0).mpr rfl), Nat.gcd_zero_right]
    · have hb : 0 < b := by omega
      have hr := Nat.mod_lt a hb
      rw [step (f + 1) a b h2 h3 hb]
      by_cases c2 : a % b = 0
      · rw [c2, f_X6_common_6, if_pos ((lg_cmp_eq (lN 0) 0).mpr rfl), Nat.gcd_comm, Nat.gcd_eq_left (Nat.dvd_of_mod_eq_zero c2)]
      · have g := gcd_half hb (show 0 < a % b by omega)
        rw [step f b (a % b) h3 (by omega) (by omega), ih (a % b) (b % (a % b)) f (by omega) (by omega) (by omega) (by omega)]
        rw [Nat.gcd_comm (a % b), ← Nat.gcd_rec, ← Nat.gcd_rec, Nat.gcd_comm]
theorem p5_gcd : ∀ (k a b f i : Nat), b < 2 ^ k → a < 2 ^ 62 → b < 2 ^ 62 → 2 * k < f → i + 2 * k ≤ 200 → f_X5_greatestCommonDivisor_9 f (lN a) (lN b) (nI i) = some (lN (Nat.gcd a b)) := by
  intro k
  have fin : ∀ (f a i : Nat), f_X5_greatestCommonDivisor_9 (f + 1) (lN a) (lN 0) (nI i) = some (lN a) := fun f a i => by
    rw [f_X5_greatestCommonDivisor_9, if_pos ((lg_cmp_eq (lN 0) 0).mpr rfl)]
    split <;> rfl
  induction k with
  | zero =>
    intro a b f i h1 h2 h3 h4 h5
    obtain ⟨f, rfl⟩ : ∃ m, f = m + 1 := ⟨f - 1, by omega⟩
    have : b = 0 := by omega
    subst this
    rw [fin, Nat.gcd_zero_right]
  | succ k ih =>
    intro a b f i h1 h2 h3 h4 h5
    obtain ⟨f, rfl⟩ : ∃ m, f = m + 2 := ⟨f - 2, by omega⟩
    have hp : 2 ^ (k + 1) = 2 * 2 ^ k := by rw [Nat.pow_succ]; omega
    have step : ∀ (g x y i : Nat), i < 200 → x < 2 ^ 62 → y < 2 ^ 62 → 0 < y → f_X5_greatestCommonDivisor_9 (g + 1) (lN x) (lN y) (nI i) = f_X5_greatestCommonDivisor_9 g (lN y) (lN (x % y)) (nI (i + 1)) := fun g x y i g0 g1 g2 g3 => by
      have ne : ¬ lN y = 0 := fun e => by have := (pk_lEQ (by omega) (by omega)).mp (e.trans lN_0); omega
      rw [f_X5_greatestCommonDivisor_9, show (200 : Int32) = nI 200 from rfl, if_neg (nI_ge g0 (by omega)), if_neg (fun e => ne ((lg_cmp_eq _ _).mp e))]
      unfold dzl bd
      rw [if_neg ne, pk_lRem (by omega) g3 (by omega), nI_1]
    by_cases c : b = 0
    · subst c
      rw [fin, Nat.gcd_zero_right]
    · have hb : 0 < b := by omega
      have hr := Nat.mod_lt a hb
      rw [step (f + 1) a b i (by omega) h2 h3 hb]
      by_cases c2 : a % b = 0
      · rw [c2, fin, Nat.gcd_comm, Nat.gcd_eq_left (Nat.dvd_of_mod_eq_zero c2)]
      · have g := gcd_half hb (show 0 < a % b by omega)
        rw [step f b (a % b) (i + 1) (by omega) h3 (by omega) (by omega), ih (a % b) (b % (a % b)) f (i + 1 + 1) (by omega) (by omega) (by omega) (by omega) (by omega)]
        rw [Nat.gcd_comm (a % b), ← Nat.gcd_rec, ← Nat.gcd_rec, Nat.gcd_comm]
theorem lowest_rel {S P : Nat} (hS : S < 2 ^ 62) (hP : P < 2 ^ 62) (hp : 0 < P) (v : Int32) : ∃ r, f_X5_inLowestTerms (lN S) (lN P) v = some r ∧ f_X6_lowest (lN S) (lN P) v = some r := by
  have e1 := p5_gcd 62 S P 1000 0 hP hS hP (by omega) (by omega)
  have e2 := p6_gcd 62 P S 1000 hS hP hS (by omega)
  rw [Nat.gcd_comm] at e2
  have hg : 0 < Nat.gcd S P := Nat.gcd_pos_of_pos_right S hp
  have hg2 : Nat.gcd S P ≤ P := Nat.le_of_dvd hp (Nat.gcd_dvd_right S P)
  unfold f_X5_inLowestTerms f_X6_lowest f_X5_greatestCommonDivisor f_X6_common f_X5_inLowestTerms_17
  rw [show (0 : Int32) = nI 0 from rfl, ob1_s e1, ob1_s e2]
  generalize Nat.gcd S P = g at hg hg2
  have ne : ¬ lN g = 0 := fun e => by have := (pk_lEQ (by omega) (by omega)).mp (e.trans lN_0); omega
  have nl : ¬ (lg_cmp (lN g) 0) ≤ nI 0 := fun e => by have := (pk_lLE (by omega) (by omega)).mp ((lg_cmp_le (lN g) (lN 0)).mp e); omega
  unfold dzl
  rw [if_neg nl, if_neg nl, if_neg ne, if_neg ne]
  by_cases c : v = nI 0
  · simp only [if_pos c]; exact ⟨_, rfl, rfl⟩
  · simp only [if_neg c]; exact ⟨_, rfl, rfl⟩
theorem p5_ten {n : Nat} (hn : n ≤ 8) : ∀ (d i f p : Nat), i + d = n → d < f → f_X5_tenToThe_4 (nI n) f (lN p) (nI i) = some (lN (p * 10 ^ d)) := by
  intro d
  induction d with
  | zero =>
    intro i f p h1 h2
    obtain ⟨f, rfl⟩ : ∃ m, f = m + 1 := ⟨f - 1, by omega⟩
    rw [f_X5_tenToThe_4, if_pos (nI_le (by omega) (by omega)), Nat.pow_zero, Nat.mul_one]
  | succ d ih =>
    intro i f p h1 h2
    obtain ⟨f, rfl⟩ : ∃ m, f = m + 1 := ⟨f - 1, by omega⟩
    rw [f_X5_tenToThe_4, if_neg (nI_ge (by omega) (by omega)), show (10 : Int64) = lN 10 from rfl, lN_mul, nI_1]
    unfold bd
    dsimp only
    rw [ih (i + 1) f (p * 10) (by omega) (by omega), Nat.pow_succ, Nat.mul_assoc, Nat.mul_comm 10]
theorem p6_ten {n : Nat} (hn : n ≤ 8) (v br dm sm wm is : Int32) (sS dS : Int64) (mSt mNow : Nat → Int32) : ∀ (d i f p : Nat), i + d = n → d < f → f_X6_findOdds_17 v (nI n) br dm sm wm is sS dS mSt mNow f (nI i) (lN p) = f_X6_findOdds_42 v (nI n) (lN (p * 10 ^ d)) mSt 1000 0 br dm sm wm is sS dS mNow := by
  intro d
  induction d with
  | zero =>
    intro i f p h1 h2
    obtain ⟨f, rfl⟩ : ∃ m, f = m + 1 := ⟨f - 1, by omega⟩
    rw [f_X6_findOdds_17, if_pos (nI_le (by omega) (by omega)), Nat.pow_zero, Nat.mul_one]
  | succ d ih =>
    intro i f p h1 h2
    obtain ⟨f, rfl⟩ : ∃ m, f = m + 1 := ⟨f - 1, by omega⟩
    rw [f_X6_findOdds_17, if_neg (nI_ge (by omega) (by omega)), show (10 : Int64) = lN 10 from rfl, lN_mul, nI_1, ih (i + 1) f (p * 10) (by omega) (by omega), Nat.pow_succ, Nat.mul_assoc, Nat.mul_comm 10]
def wtB (F : Int32) (v : Nat) : Nat → Nat → Nat
  | 0, _ => 1
  | d + 1, h => (if ((F >>> (nI h &&& 31)) &&& 1) = 1 then v else 10 - v) * wtB F v d (h + 1)
theorem wtB_s (F : Int32) (v d h : Nat) : wtB F v (d + 1) h = (if ((F >>> (nI h &&& 31)) &&& 1) = 1 then v else 10 - v) * wtB F v d (h + 1) := rfl
theorem wtB_le {v : Nat} (hv : v ≤ 10) (F : Int32) : ∀ d h, wtB F v d h ≤ 10 ^ d := by
  intro d
  induction d with
  | zero => intro h; exact Nat.le_refl 1
  | succ d ih =>
    intro h
    rw [wtB_s, Nat.pow_succ, Nat.mul_comm (10 ^ d)]
    refine Nat.mul_le_mul ?_ (ih _)
    split <;> omega
theorem p5_weight {n v : Nat} (hn : n ≤ 8) (hv : v ≤ 10) (F : Int32) : ∀ (d h f w : Nat), h + d = n → d < f → f_X5_weightOf_5 F (nI v) (nI n) f (lN w) (nI h) = some (lN (w * wtB F v d h)) := by
  intro d
  induction d with
  | zero =>
    intro h f w h1 h2
    obtain ⟨f, rfl⟩ : ∃ m, f = m + 1 := ⟨f - 1, by omega⟩
    rw [f_X5_weightOf_5, if_pos (nI_le (by omega) (by omega)), show wtB F v 0 h = 1 from rfl, Nat.mul_one]
  | succ d ih =>
    intro h f w h1 h2
    obtain ⟨f, rfl⟩ : ∃ m, f = m + 1 := ⟨f - 1, by omega⟩
    rw [f_X5_weightOf_5, if_neg (nI_ge (by omega) (by omega)), wtB_s, nI_1, show (10 : Int32) = nI 10 from rfl, pk_sub hv, nI_l (by omega), nI_l (by omega), lN_mul, lN_mul]
    unfold bd
    dsimp only
    by_cases c : ((F >>> (nI h &&& 31)) &&& 1) = 1
    · rw [if_pos c, if_pos c, ih (h + 1) f (w * v) (by omega) (by omega), Nat.mul_assoc]
    · rw [if_neg c, if_neg c, ih (h + 1) f (w * (10 - v)) (by omega) (by omega), Nat.mul_assoc]
theorem odds_in {nc ns n v : Nat} (hn : n ≤ 8) (hv : v ≤ 10) {kd rm lk pl : Nat → Int32} (hP : WP ns pl) (F n1 n2 n3 n4 n5 n6 : Int32) (q1 q2 q3 q4 q5 mSt : Nat → Int32) : ∀ (d h f hr w : Nat) (st wa dn dm sm wm is : Int32) (ch m : Nat → Int32), h + d = n → d < f → hr + d < 100000 → WR nc kd rm ch lk → RR nc ns hr kd rm ch lk pl m → CTry h st wa dn sm wm dm → ∃ (st' wa' dm' is' : Int32) (ch' m' : Nat → Int32), f_X5_runTrialFailing_6 F (nI n) n1 n2 n3 n4 n5 n6 q1 q2 q3 q4 q5 (nI nc) (nI ns) (-4) kd rm lk pl f (nI h) (nI hr) st wa dn ch = some (nI nc, nI ns, nI (hr + d), st', wa', dm', (-4), kd, rm, ch', lk, pl) ∧ (∀ (K : Int32 → Int32 → Int32 → Int32 → Int32 → Int32 → Int64 → Int64 → (Nat → Int32) → Option (Int32 × Int32 × Int32 × Int32 × Int32 × Int64 × Int64 × Int64 × (Nat → Int32))) (sS dS aW : Int64) (f' : Nat), d < f' → f_X6_findOdds_59 K (nI v) (nI n) F (-4) sS dS aW mSt f' (lN w) (nI h) dm sm wm is m = K (F + 1) (-4) dm' st' wa' is' (sS + (if st' = 0 then lN (w * wtB F v d h) else 0)) (dS + lN (w * wtB F v d h) * dm'.toInt64) m') ∧ 0 ≤ dm'.toInt ∧ dm'.toInt ≤ 9 * (h + d : Nat) := by
  intro d
  induction d with
  | zero =>
    intro h f hr w st wa dn dm sm wm is ch m h1 h2 h3 hW hR hC
    obtain ⟨f, rfl⟩ : ∃ m, f = m + 1 := ⟨f - 1, by omega⟩
    obtain ⟨a1, a2, a3, a4, a5, a6, a7, a8, a9⟩ := hC
    subst a1; subst a2; subst a3
    refine ⟨st, wa, dn, is, ch, m, by rw [f_X5_runTrialFailing_6, if_pos (nI_le (by omega) (by omega))]; rfl, fun K sS dS aW f' hf => ?_, a8, by omega⟩
    obtain ⟨f', rfl⟩ : ∃ m, f' = m + 1 := ⟨f' - 1, by omega⟩
    rw [f_X6_findOdds_59, if_pos (nI_le (by omega) (by omega)), show wtB F v 0 h = 1 from rfl, Nat.mul_one]
    unfold f_X6_findOdds_143
    by_cases c : st = 0
    · rw [if_pos c, if_pos c]
    · rw [if_neg c, if_neg c]
  | succ d ih =>
    intro h f hr w st wa dn dm sm wm is ch m h1 h2 h3 hW hR hC
    obtain ⟨f, rfl⟩ : ∃ m, f = m + 1 := ⟨f - 1, by omega⟩
    by_cases c : ((F >>> (nI h &&& 31)) &&& 1) = 1
    · obtain ⟨stp, D, st1, wa1, dn1, sm1, wm1, ch1, m1, e1, e2, -, e4, e5, -, e7, -⟩ := hour_rel hW hR hP.1 (-4) 0 st wa dn dm sm wm is (by decide) (by decide)
      obtain ⟨st', wa', dm', is', ch', m', g1, g2, g3, g4⟩ := ih (h + 1) f (hr + 1) (w * v) st1 wa1 dn1 _ sm1 wm1 (zB stp) ch1 m1 (by omega) (by omega) (by omega) e4 e5 (by have := e7 h (by omega) hC; exact this)
      refine ⟨st', wa', dm', is', ch', m', ?_, fun K sS dS aW f' hf => ?_, g3, by omega⟩
      · rw [f_X5_runTrialFailing_6, if_neg (nI_ge (by omega) (by omega)), if_pos c]
        unfold f_X5_runTrialFailing_35
        rw [ob6_s e1, nI_1, g1, show hr + 1 + d = hr + (d + 1) by omega]
      · obtain ⟨f', rfl⟩ : ∃ m, f' = m + 1 := ⟨f' - 1, by omega⟩
        rw [f_X6_findOdds_59, if_neg (nI_ge (by omega) (by omega)), if_pos c]
        unfold f_X6_findOdds_80 f_X6_findOdds_99 f_X6_findOdds_116 bd
        dsimp only
        rw [i10, i10, ob5_s e2, nI_1, nI_l (by omega), lN_mul, g2 K sS dS aW f' (by omega), wtB_s, if_pos c, Nat.mul_assoc]
    · have hb := sCur_r hP hr
      obtain ⟨stp, D, st1, wa1, dn1, sm1, wm1, ch1, m1, e1, e2, -, e4, e5, -, e7, -⟩ := hour_rel hW hR hP.1 (-4) (sCur ns hr pl) st wa dn dm sm wm is hb.1 hb.2
      obtain ⟨st', wa', dm', is', ch', m', g1, g2, g3, g4⟩ := ih (h + 1) f (hr + 1) (w * (10 - v)) st1 wa1 dn1 _ sm1 wm1 (zB stp) ch1 m1 (by omega) (by omega) (by omega) e4 e5 (by have := e7 h (by omega) hC; exact this)
      refine ⟨st', wa', dm', is', ch', m', ?_, fun K sS dS aW f' hf => ?_, g3, by omega⟩
      · rw [f_X5_runTrialFailing_6, if_neg (nI_ge (by omega) (by omega)), if_neg c, ob1_s (p1_current hP.1 (by omega) pl)]
        unfold f_X5_runTrialFailing_35
        rw [ob6_s e1, nI_1, g1, show hr + 1 + d = hr + (d + 1) by omega]
      · obtain ⟨f', rfl⟩ : ∃ m, f' = m + 1 := ⟨f' - 1, by omega⟩
        rw [f_X6_findOdds_59, if_neg (nI_ge (by omega) (by omega)), if_neg c]
        unfold f_X6_findOdds_80 f_X6_findOdds_99 f_X6_findOdds_116 bd
        dsimp only
        rw [i00, i00, ob1_s (p6_currentNow hR hP.1 (by omega)), ob5_s e2, nI_1, show (10 : Int32) = nI 10 from rfl, pk_sub hv, nI_l (by omega), lN_mul, g2 K sS dS aW f' (by omega), wtB_s, if_neg c, Nat.mul_assoc]
theorem sh_pow : ∀ n, n < 9 → (1 : Int32) <<< (nI n &&& 31) = nI (2 ^ n) := by decide
theorem p10 {n : Nat} (hn : n ≤ 8) : 10 ^ n ≤ 100000000 := (Nat.pow_le_pow_right (by decide) hn : 10 ^ n ≤ 10 ^ 8)
theorem p2n {n : Nat} (hn : n ≤ 8) : 2 ^ n ≤ 256 := (Nat.pow_le_pow_right (by decide) hn : 2 ^ n ≤ 2 ^ 8)
theorem ob12_p {A1 A2 A3 A4 A5 A6 A7 A8 A9 A10 A11 A12 B : Type} {a1 : A1} {a2 : A2} {a3 : A3} {a4 : A4} {a5 : A5} {a6 : A6} {a7 : A7} {a8 : A8} {a9 : A9} {a10 : A10} {a11 : A11} {a12 : A12} {x : Option (A1 × A2 × A3 × A4 × A5 × A6 × A7 × A8 × A9 × A10 × A11 × A12)} {k : A1 → A2 → A3 → A4 → A5 → A6 → A7 → A8 → A9 → A10 → A11 → A12 → Option B} (h : x = some (a1, a2, a3, a4, a5, a6, a7, a8, a9, a10, a11, a12)) : ob12 x k = k a1 a2 a3 a4 a5 a6 a7 a8 a9 a10 a11 a12 := by rw [h]; rfl
theorem luck_loop {nc ns hr : Nat} {kd rm ch lk pl mSt : Nat → Int32} (h : MR nc ns hr kd rm ch lk pl mSt) (st wa dn : Int32) {n v : Nat} (hn : n ≤ 8) (hv : v ≤ 10) (v3 : Int32) : ∀ (d i f f' S : Nat) (dS : Int64) (br dm sm wm is : Int32) (tCells tSigns tHour tStops tWaste tDone tBridged : Int32) (tKind tRoom tCharge tLeak tPlan : Nat → Int32) (mNow : Nat → Int32), i + d = 2 ^ n → d < f → d < f' → S ≤ i * 100000000 → ∃ r o o1 o2 o3 o4 o5 o6 o7 o8, f_X5_luck_25 (nI v) (nI n) v3 (nI nc) (nI ns) (nI hr) st wa dn kd rm ch lk pl f (lN S) (nI i) tCells tSigns tHour tStops tWaste tDone tBridged tKind tRoom tCharge tLeak tPlan = some (r, o) ∧ f_X6_findOdds_42 (nI v) (nI n) (lN (10 ^ n)) mSt f' (nI i) br dm sm wm is (lN S) dS mNow = some (o1, o2, o3, o4, o5, o6, o7, lN (10 ^ n), o8) ∧ f_X6_lowest o6 (lN (10 ^ n)) v3 = some r := by
  have b1 := p10 hn
  have b2 := p2n hn
  have b3 : 0 < 10 ^ n := Nat.pow_pos (by decide)
  have hh := h.2.2.2
  intro d
  induction d with
  | zero =>
    intro i f f' S dS br dm sm wm is tCells tSigns tHour tStops tWaste tDone tBridged tKind tRoom tCharge tLeak tPlan mNow h1 h2 h3 h4
    obtain ⟨f, rfl⟩ : ∃ m, f = m + 1 := ⟨f - 1, by omega⟩
    obtain ⟨f', rfl⟩ : ∃ m, f' = m + 1 := ⟨f' - 1, by omega⟩
    have ten := p5_ten hn n 0 1000 1 (by omega) (by omega)
    rw [Nat.one_mul] at ten
    obtain ⟨r, e1, e2⟩ := lowest_rel (S := S) (P := 10 ^ n) (by omega) (by omega) b3 v3
    rw [f_X5_luck_25, f_X6_findOdds_42, sh_pow n (by omega), if_pos (nI_le (by omega) (by omega)), if_pos (nI_le (by omega) (by omega))]
    unfold f_X5_tenToThe
    rw [ob1_s (show f_X5_tenToThe_4 (nI n) 1000 1 0 = some (lN (10 ^ n)) from ten), ob1_s e1]
    exact ⟨r, _, _, _, _, _, _, _, _, _, rfl, rfl, e2⟩
  | succ d ih =>
    intro i f f' S dS br dm sm wm is tCells tSigns tHour tStops tWaste tDone tBridged tKind tRoom tCharge tLeak tPlan mNow h1 h2 h3 h4
    obtain ⟨f, rfl⟩ : ∃ m, f = m + 1 := ⟨f - 1, by omega⟩
    obtain ⟨f', rfl⟩ : ∃ m, f' = m + 1 := ⟨f' - 1, by omega⟩
    obtain ⟨m1, e1, e2⟩ := p6_starts br dm sm wm mSt mNow
    obtain ⟨tW, tP, tR, tH⟩ := MR_start h tKind tRoom tCharge tLeak tPlan e2
    obtain ⟨st', wa', dm', is', ch', m', g1, g2, g3, g4⟩ := odds_in hn hv tP (nI i) (nI nc) (nI ns) (nI hr) st wa dn kd rm ch lk pl mSt n 0 1000 hr 1 0 0 0 0 0 0 is _ m1 (by omega) (by omega) (by omega) tW tR CTry_0
    have hwt := p5_weight hn hv (nI i) n 0 1000 1 (by omega) (by omega)
    have hle := wtB_le hv (nI i) n 0
    have hr1 : f_X5_runTrialFailing (nI i) (nI n) (nI nc) (nI ns) (nI hr) st wa dn kd rm ch lk pl tCells tSigns tHour tStops tWaste tDone tBridged tKind tRoom tCharge tLeak tPlan = some (nI nc, nI ns, nI (hr + n), st', wa', dm', (-4), c5 kd tKind, c5 rm tRoom, ch', c5 lk tLeak, c16 pl tPlan) := by
      unfold f_X5_runTrialFailing
      rw [ob12_s (p5_start ..)]
      exact g1
    rw [Nat.one_mul] at hwt
    have g2 := g2 (f_X6_findOdds_42 (nI v) (nI n) (lN (10 ^ n)) mSt f') (lN S) dS (lN (10 ^ n)) 1000 (by omega)
    rw [Nat.one_mul, nI_1, show nI 0 = (0 : Int32) from rfl, show lN 1 = (1 : Int64) from rfl] at g2
    rw [f_X5_luck_25, f_X6_findOdds_42, sh_pow n (by omega), if_neg (nI_ge (by omega) (by omega)), if_neg (nI_ge (by omega) (by omega)), ob5_s e1, g2]
    unfold f_X5_weightOf
    rw [show (1 : Int64) = lN 1 from rfl, show f_X5_weightOf_5 (nI i) (nI v) (nI n) 1000 (lN 1) 0 = some (lN (wtB (nI i) v n 0)) from hwt]
    generalize wtB (nI i) v n 0 = W at hle
    rw [ob1_s rfl]
    by_cases c : W = 0
    · subst c
      rw [if_pos ((lg_cmp_le (lN 0) 0).mpr (by decide)), nI_1, show (if st' = 0 then lN 0 else (0 : Int64)) = lN 0 by split <;> rfl, lN_add, Nat.add_zero]
      exact ih (i + 1) f f' S _ _ _ _ _ _ _ _ _ _ _ _ _ _ _ _ _ _ _ (by omega) (by omega) (by omega) (Nat.le_trans h4 (Nat.mul_le_mul_right _ (Nat.le_succ i)))
    · rw [if_neg (fun e => by have := (pk_lLE (by omega) (by omega)).mp ((lg_cmp_le (lN W) (lN 0)).mp e); omega), ob12_p hr1]
      unfold bd
      dsimp only
      by_cases c2 : st' = 0
      · rw [if_pos c2, if_pos c2, lN_add, nI_1]
        exact ih (i + 1) f f' (S + W) _ _ _ _ _ _ _ _ _ _ _ _ _ _ _ _ _ _ _ (by omega) (by omega) (by omega) (by omega)
      · rw [if_neg c2, if_neg c2, lN_0, lN_add, Nat.add_zero, nI_1]
        exact ih (i + 1) f f' S _ _ _ _ _ _ _ _ _ _ _ _ _ _ _ _ _ _ _ (by omega) (by omega) (by omega) (Nat.le_trans h4 (Nat.mul_le_mul_right _ (Nat.le_succ i)))
theorem mean_loop {nc ns hr : Nat} {kd rm ch lk pl mSt : Nat → Int32} (h : MR nc ns hr kd rm ch lk pl mSt) (st wa dn : Int32) {n v : Nat} (hn : n ≤ 8) (hv : v ≤ 10) (v3 : Int32) : ∀ (d i f f' S : Nat) (sS : Int64) (br dm sm wm is : Int32) (tCells tSigns tHour tStops tWaste tDone tBridged : Int32) (tKind tRoom tCharge tLeak tPlan : Nat → Int32) (mNow : Nat → Int32), i + d = 2 ^ n → d < f → d < f' → S ≤ i * 7200000000 → ∃ r o o1 o2 o3 o4 o5 o6 o7 o8, f_X5_mean_25 (nI v) (nI n) v3 (nI nc) (nI ns) (nI hr) st wa dn kd rm ch lk pl f (lN S) (nI i) tCells tSigns tHour tStops tWaste tDone tBridged tKind tRoom tCharge tLeak tPlan = some (r, o) ∧ f_X6_findOdds_42 (nI v) (nI n) (lN (10 ^ n)) mSt f' (nI i) br dm sm wm is sS (lN S) mNow = some (o1, o2, o3, o4, o5, o6, o7, lN (10 ^ n), o8) ∧ f_X6_lowest o7 (lN (10 ^ n)) v3 = some r := by
  have b1 := p10 hn
  have b2 := p2n hn
  have b3 : 0 < 10 ^ n := Nat.pow_pos (by decide)
  have hh := h.2.2.2
  intro d
  induction d with
  | zero =>
    intro i f f' S dS br dm sm wm is tCells tSigns tHour tStops tWaste tDone tBridged tKind tRoom tCharge tLeak tPlan mNow h1 h2 h3 h4
    obtain ⟨f, rfl⟩ : ∃ m, f = m + 1 := ⟨f - 1, by omega⟩
    obtain ⟨f', rfl⟩ : ∃ m, f' = m + 1 := ⟨f' - 1, by omega⟩
    have ten := p5_ten hn n 0 1000 1 (by omega) (by omega)
    rw [Nat.one_mul] at ten
    obtain ⟨r, e1, e2⟩ := lowest_rel (S := S) (P := 10 ^ n) (by omega) (by omega) b3 v3
    rw [f_X5_mean_25, f_X6_findOdds_42, sh_pow n (by omega), if_pos (nI_le (by omega) (by omega)), if_pos (nI_le (by omega) (by omega))]
    unfold f_X5_tenToThe
    rw [ob1_s (show f_X5_tenToThe_4 (nI n) 1000 1 0 = some (lN (10 ^ n)) from ten), ob1_s e1]
    exact ⟨r, _, _, _, _, _, _, _, _, _, rfl, rfl, e2⟩
  | succ d ih =>
    intro i f f' S dS br dm sm wm is tCells tSigns tHour tStops tWaste tDone tBridged tKind tRoom tCharge tLeak tPlan mNow h1 h2 h3 h4
    obtain ⟨f, rfl⟩ : ∃ m, f = m + 1 := ⟨f - 1, by omega⟩
    obtain ⟨f', rfl⟩ : ∃ m, f' = m + 1 := ⟨f' - 1, by omega⟩
    obtain ⟨m1, e1, e2⟩ := p6_starts br dm sm wm mSt mNow
    obtain ⟨tW, tP, tR, tH⟩ := MR_start h tKind tRoom tCharge tLeak tPlan e2
    obtain ⟨st', wa', dm', is', ch', m', g1, g2, g3, g4⟩ := odds_in hn hv tP (nI i) (nI nc) (nI ns) (nI hr) st wa dn kd rm ch lk pl mSt n 0 1000 hr 1 0 0 0 0 0 0 is _ m1 (by omega) (by omega) (by omega) tW tR CTry_0
    have hwt := p5_weight hn hv (nI i) n 0 1000 1 (by omega) (by omega)
    have hle := wtB_le hv (nI i) n 0
    have hr1 : f_X5_runTrialFailing (nI i) (nI n) (nI nc) (nI ns) (nI hr) st wa dn kd rm ch lk pl tCells tSigns tHour tStops tWaste tDone tBridged tKind tRoom tCharge tLeak tPlan = some (nI nc, nI ns, nI (hr + n), st', wa', dm', (-4), c5 kd tKind, c5 rm tRoom, ch', c5 lk tLeak, c16 pl tPlan) := by
      unfold f_X5_runTrialFailing
      rw [ob12_s (p5_start ..)]
      exact g1
    rw [Nat.one_mul] at hwt
    have g2 := g2 (f_X6_findOdds_42 (nI v) (nI n) (lN (10 ^ n)) mSt f') dS (lN S) (lN (10 ^ n)) 1000 (by omega)
    rw [Nat.one_mul, nI_1, show nI 0 = (0 : Int32) from rfl, show lN 1 = (1 : Int64) from rfl] at g2
    rw [f_X5_mean_25, f_X6_findOdds_42, sh_pow n (by omega), if_neg (nI_ge (by omega) (by omega)), if_neg (nI_ge (by omega) (by omega)), ob5_s e1, g2]
    unfold f_X5_weightOf
    rw [show (1 : Int64) = lN 1 from rfl, show f_X5_weightOf_5 (nI i) (nI v) (nI n) 1000 (lN 1) 0 = some (lN (wtB (nI i) v n 0)) from hwt]
    generalize wtB (nI i) v n 0 = W at hle
    rw [ob1_s rfl]
    obtain ⟨D, hD1, hD2, rfl⟩ := In_of (x := dm') (a := 72) g3 (by omega)
    rw [nI_l (by omega), lN_mul, lN_add]
    by_cases c : W = 0
    · subst c
      rw [if_pos ((lg_cmp_le (lN 0) 0).mpr (by decide)), nI_1, Nat.zero_mul, Nat.add_zero]
      exact ih (i + 1) f f' S _ _ _ _ _ _ _ _ _ _ _ _ _ _ _ _ _ _ _ (by omega) (by omega) (by omega) (Nat.le_trans h4 (Nat.mul_le_mul_right _ (Nat.le_succ i)))
    · rw [if_neg (fun e => by have := (pk_lLE (by omega) (by omega)).mp ((lg_cmp_le (lN W) (lN 0)).mp e); omega), ob12_p hr1]
      unfold bd
      dsimp only
      rw [nI_l (by omega), lN_mul, lN_add, nI_1]
      have hm : W * D ≤ 100000000 * 72 := Nat.mul_le_mul (by omega) (by omega)
      exact ih (i + 1) f f' (S + W * D) _ _ _ _ _ _ _ _ _ _ _ _ _ _ _ _ _ _ _ (by omega) (by omega) (by omega) (by omega)
theorem p5_odds_t {v1 v2 : Int32} (h1 : In 0 10 v1) (h2 : In 0 8 v2) : f_X5_isOdds v1 v2 = some 1 := by
  unfold f_X5_isOdds
  rw [g2_t (K := 10) h1, g2_t (K := 8) h2]
theorem p5_odds_f {v1 v2 : Int32} (h : ¬ (In 0 10 v1 ∧ In 0 8 v2)) : f_X5_isOdds v1 v2 = some 0 := by
  unfold f_X5_isOdds
  by_cases h1 : In 0 10 v1
  · rw [g2_t (K := 10) h1, g2_f (K := 8) (fun q => h ⟨h1, q⟩)]
  · rw [g2_f (K := 10) h1]
theorem ob9_p {A1 A2 A3 A4 A5 A6 A7 A8 A9 B : Type} {a1 : A1} {a2 : A2} {a3 : A3} {a4 : A4} {a5 : A5} {a6 : A6} {a7 : A7} {a8 : A8} {a9 : A9} {x : Option (A1 × A2 × A3 × A4 × A5 × A6 × A7 × A8 × A9)} {k : A1 → A2 → A3 → A4 → A5 → A6 → A7 → A8 → A9 → Option B} (h : x = some (a1, a2, a3, a4, a5, a6, a7, a8, a9)) : ob9 x k = k a1 a2 a3 a4 a5 a6 a7 a8 a9 := by rw [h]; rfl
theorem op_luck {nc ns hr : Nat} {kd rm ch lk pl mSt : Nat → Int32} (h : MR nc ns hr kd rm ch lk pl mSt) (st wa dn : Int32) (v1 v2 v3 : Int32) (sS dS aW : Int64) (br dm sm wm is : Int32) (mNow : Nat → Int32) (tCells tSigns tHour tStops tWaste tDone tBridged : Int32) (tKind tRoom tCharge tLeak tPlan : Nat → Int32) : ∃ r o o', f_X5_luck v1 v2 v3 (nI nc) (nI ns) (nI hr) st wa dn kd rm ch lk pl tCells tSigns tHour tStops tWaste tDone tBridged tKind tRoom tCharge tLeak tPlan = some (r, o) ∧ f_X6_luck v1 v2 v3 br dm sm wm is sS dS aW mSt mNow = some (r, o') := by
  unfold f_X5_luck f_X6_luck
  by_cases c1 : In 0 10 v1
  · rw [ob1_s (p6_inv_t (lo := 0) (hi := 10) c1), i10]
    by_cases c2 : In 0 8 v2
    · rw [ob1_s (p5_odds_t c1 c2), ob1_s (p6_inv_t (lo := 0) (hi := 8) c2), i10, i10]
      by_cases c3 : In 0 1 v3
      · rw [ob1_s (p5_half_t c3), ob1_s (p6_part_t c3), i10, i10]
        obtain ⟨v, a1, a2, rfl⟩ := In_nat c1
        obtain ⟨n, n1, n2, rfl⟩ := In_nat c2
        have b2 := p2n (n := n) (by omega)
        obtain ⟨r, o, o1, o2, o3, o4, o5, o6, o7, o8, e1, e2, e3⟩ := luck_loop h st wa dn (n := n) (v := v) (by omega) (by omega) v3 (2 ^ n) 0 1000 1000 0 0 br dm sm wm is tCells tSigns tHour tStops tWaste tDone tBridged tKind tRoom tCharge tLeak tPlan mNow (by omega) (by omega) (by omega) (by omega)
        have t := p6_ten (n := n) (by omega) (nI v) br dm sm wm is 0 0 mSt mNow n 0 1000 1 (by omega) (by omega)
        rw [Nat.one_mul] at t
        have t2 : f_X6_findOdds (nI v) (nI n) br dm sm wm is sS dS aW mSt mNow = some (o1, o2, o3, o4, o5, o6, o7, lN (10 ^ n), o8) := t.trans e2
        rw [ob9_p t2, ob1_s e3]
        exact ⟨r, o, _, e1, rfl⟩
      · rw [ob1_s (p5_half_f c3), ob1_s (p6_part_f c3), i00, i00]
        exact ⟨_, _, _, rfl, rfl⟩
    · rw [ob1_s (p5_odds_f (fun q => c2 q.2)), ob1_s (p6_inv_f (lo := 0) (hi := 8) c2), i00, i00]
      exact ⟨_, _, _, rfl, rfl⟩
  · rw [ob1_s (p5_odds_f (fun q => c1 q.1)), ob1_s (p6_inv_f (lo := 0) (hi := 10) c1), i00, i00]
    exact ⟨_, _, _, rfl, rfl⟩
theorem op_mean {nc ns hr : Nat} {kd rm ch lk pl mSt : Nat → Int32} (h : MR nc ns hr kd rm ch lk pl mSt) (st wa dn : Int32) (v1 v2 v3 : Int32) (sS dS aW : Int64) (br dm sm wm is : Int32) (mNow : Nat → Int32) (tCells tSigns tHour tStops tWaste tDone tBridged : Int32) (tKind tRoom tCharge tLeak tPlan : Nat → Int32) : ∃ r o o', f_X5_mean v1 v2 v3 (nI nc) (nI ns) (nI hr) st wa dn kd rm ch lk pl tCells tSigns tHour tStops tWaste tDone tBridged tKind tRoom tCharge tLeak tPlan = some (r, o) ∧ f_X6_mean v1 v2 v3 br dm sm wm is sS dS aW mSt mNow = some (r, o') := by
  unfold f_X5_mean f_X6_mean
  by_cases c1 : In 0 10 v1
  · rw [ob1_s (p6_inv_t (lo := 0) (hi := 10) c1), i10]
    by_cases c2 : In 0 8 v2
    · rw [ob1_s (p5_odds_t c1 c2), ob1_s (p6_inv_t (lo := 0) (hi := 8) c2), i10, i10]
      by_cases c3 : In 0 1 v3
      · rw [ob1_s (p5_half_t c3), ob1_s (p6_part_t c3), i10, i10]
        obtain ⟨v, a1, a2, rfl⟩ := In_nat c1
        obtain ⟨n, n1, n2, rfl⟩ := In_nat c2
        have b2 := p2n (n := n) (by omega)
        obtain ⟨r, o, o1, o2, o3, o4, o5, o6, o7, o8, e1, e2, e3⟩ := mean_loop h st wa dn (n := n) (v := v) (by omega) (by omega) v3 (2 ^ n) 0 1000 1000 0 0 br dm sm wm is tCells tSigns tHour tStops tWaste tDone tBridged tKind tRoom tCharge tLeak tPlan mNow (by omega) (by omega) (by omega) (by omega)
        have t := p6_ten (n := n) (by omega) (nI v) br dm sm wm is 0 0 mSt mNow n 0 1000 1 (by omega) (by omega)
        rw [Nat.one_mul] at t
        have t2 : f_X6_findOdds (nI v) (nI n) br dm sm wm is sS dS aW mSt mNow = some (o1, o2, o3, o4, o5, o6, o7, lN (10 ^ n), o8) := t.trans e2
        rw [ob9_p t2, ob1_s e3]
        exact ⟨r, o, _, e1, rfl⟩
      · rw [ob1_s (p5_half_f c3), ob1_s (p6_part_f c3), i00, i00]
        exact ⟨_, _, _, rfl, rfl⟩
    · rw [ob1_s (p5_odds_f (fun q => c2 q.2)), ob1_s (p6_inv_f (lo := 0) (hi := 8) c2), i00, i00]
      exact ⟨_, _, _, rfl, rfl⟩
  · rw [ob1_s (p5_odds_f (fun q => c1 q.1)), ob1_s (p6_inv_f (lo := 0) (hi := 10) c1), i00, i00]
    exact ⟨_, _, _, rfl, rfl⟩
