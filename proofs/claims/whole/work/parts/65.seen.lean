/-! a trial's hours, one behind another: hour, stops, waste, done, charges -/
def tnx (nc ns : Nat) (kd rm lk pl : Nat → Int32) (s : Int32 × Int32 × Int32 × Int32 × (Nat → Int32)) : Int32 × Int32 × Int32 × Int32 × (Nat → Int32) :=
  match f_X1_current (nI ns) s.1 pl with
  | none => s
  | some c => match f_X1_passHour c (nI nc) s.1 s.2.1 s.2.2.1 s.2.2.2.1 (-4) kd rm s.2.2.2.2 lk with
    | none => s
    | some r => r.2
def trj (nc ns : Nat) (kd rm lk pl : Nat → Int32) (s : Int32 × Int32 × Int32 × Int32 × (Nat → Int32)) : Nat → Int32 × Int32 × Int32 × Int32 × (Nat → Int32)
  | 0 => s
  | n + 1 => tnx nc ns kd rm lk pl (trj nc ns kd rm lk pl s n)
theorem trj_s (nc ns : Nat) (kd rm lk pl : Nat → Int32) (s : Int32 × Int32 × Int32 × Int32 × (Nat → Int32)) (n : Nat) : trj nc ns kd rm lk pl s (n + 1) = tnx nc ns kd rm lk pl (trj nc ns kd rm lk pl s n) := rfl
theorem tnx_ok {nc ns hr : Nat} {kd rm lk pl m : Nat → Int32} (hP : WP ns pl) {s : Int32 × Int32 × Int32 × Int32 × (Nat → Int32)} (hs : s.1 = nI hr) (hh : hr < 99000) (hW : WR nc kd rm s.2.2.2.2 lk) (hR : RR nc ns hr kd rm s.2.2.2.2 lk pl m) (dm sm wm is : Int32) : ∃ (d c dm' sm' wm' is' : Int32) (m' : Nat → Int32), f_X1_current (nI ns) s.1 pl = some c ∧ f_X1_passHour c (nI nc) s.1 s.2.1 s.2.2.1 s.2.2.2.1 (-4) kd rm s.2.2.2.2 lk = some (d, tnx nc ns kd rm lk pl s) ∧ (tnx nc ns kd rm lk pl s).1 = nI (hr + 1) ∧ f_X6_hoursGo 1 (-4) dm sm wm is m = some (dm', sm', wm', is', m') ∧ WR nc kd rm (tnx nc ns kd rm lk pl s).2.2.2.2 lk ∧ RR nc ns (hr + 1) kd rm (tnx nc ns kd rm lk pl s).2.2.2.2 lk pl m' := by
  obtain ⟨s1, s2, s3, s4, s5⟩ := s
  dsimp only at hs hW hR ⊢
  subst hs
  have hb := sCur_r hP hr
  obtain ⟨stp, d, st1, wa1, dn1, sm1, wm1, ch1, m1, e1, e2, -, e4, e5, -⟩ := hour_rel hW hR hP.1 (-4) (sCur ns hr pl) s2 s3 s4 dm sm wm is hb.1 hb.2
  have ec := p1_current hP.1 (show hr < 100000 by omega) pl
  have et : tnx nc ns kd rm lk pl (nI hr, s2, s3, s4, s5) = (nI (hr + 1), st1, wa1, dn1, ch1) := by
    unfold tnx
    dsimp only
    rw [ec]
    dsimp only
    rw [e1]
  rw [et]
  exact ⟨d, _, _, _, _, _, m1, ec, e1, rfl, p6_hours1 (p6_currentNow hR hP.1 (by omega)) e2, e4, e5⟩
/-- the course of a row from a trial's start -/
def crs (nc ns hr : Nat) (kd rm ch lk pl : Nat → Int32) (n : Nat) : Nat → Int32 := (trj nc ns kd rm lk pl (nI hr, 0, 0, 0, ch) n).2.2.2.2
theorem trj_ok {nc ns hr : Nat} {kd rm ch lk pl m : Nat → Int32} (h : MR nc ns hr kd rm ch lk pl m) : ∀ n, n ≤ 80000 → (trj nc ns kd rm lk pl (nI hr, 0, 0, 0, ch) n).1 = nI (hr + n) ∧ WR nc kd rm (crs nc ns hr kd rm ch lk pl n) lk ∧ ∃ m', RR nc ns (hr + n) kd rm (crs nc ns hr kd rm ch lk pl n) lk pl m' := by
  obtain ⟨hW, hP, hR, hh⟩ := h
  intro n
  induction n with
  | zero => exact fun _ => ⟨rfl, hW, m, hR⟩
  | succ n ih =>
    intro hn
    obtain ⟨a, b, m', c⟩ := ih (by omega)
    obtain ⟨d, c', dm', sm', wm', is', m'', e1, e2, e3, e4, e5, e6⟩ := tnx_ok hP a (by omega) b c 0 0 0 0
    exact ⟨e3, e5, m'', e6⟩
/-- two rows that stand for the same numbers have the same course -/
theorem trj_same {nc ns hr : Nat} {kd rm ch lk pl kd' rm' ch' lk' pl' m : Nat → Int32} (h : MR nc ns hr kd rm ch lk pl m) (h' : MR nc ns hr kd' rm' ch' lk' pl' m) : ∀ n, n ≤ 80000 → ∃ m', RR nc ns (hr + n) kd rm (crs nc ns hr kd rm ch lk pl n) lk pl m' ∧ RR nc ns (hr + n) kd' rm' (crs nc ns hr kd' rm' ch' lk' pl' n) lk' pl' m' := by
  intro n
  induction n with
  | zero => exact fun _ => ⟨m, h.2.2.1, h'.2.2.1⟩
  | succ n ih =>
    intro hn
    have hh := h.2.2.2
    obtain ⟨m', r1, r2⟩ := ih (by omega)
    obtain ⟨a, b, -⟩ := trj_ok h n (by omega)
    obtain ⟨a', b', -⟩ := trj_ok h' n (by omega)
    obtain ⟨d1, c1, dm1, sm1, wm1, is1, m1, -, -, -, e4, -, e6⟩ := tnx_ok h.2.1 a (by omega) b r1 0 0 0 0
    obtain ⟨d2, c2, dm2, sm2, wm2, is2, m2, -, -, -, g4, -, g6⟩ := tnx_ok h'.2.1 a' (by omega) b' r2 0 0 0 0
    have e := e4.symm.trans g4
    have em : m1 = m2 := by
      have q := (Option.some.inj e)
      exact (Prod.mk.inj (Prod.mk.inj (Prod.mk.inj (Prod.mk.inj q).2).2).2).2
    subst em
    exact ⟨m1, e6, g6⟩
theorem crs_same {nc ns hr : Nat} {kd rm ch lk pl kd' rm' ch' lk' pl' m : Nat → Int32} (h : MR nc ns hr kd rm ch lk pl m) (h' : MR nc ns hr kd' rm' ch' lk' pl' m) {n c : Nat} (hn : n ≤ 80000) (hc : c < nc) : crs nc ns hr kd rm ch lk pl n c = crs nc ns hr kd' rm' ch' lk' pl' n c := by
  obtain ⟨m', r1, r2⟩ := trj_same h h' n hn
  rw [(r1.1.2 c hc).2.2.1, (r2.1.2 c hc).2.2.1]
/-- what was seen agrees with a course -/
def Good (sz : Nat) (sh sc sv : Nat → Int32) (C : Nat → Nat → Int32) : Prop := ∀ q, q < sz → C (sh q).toNatClampNeg (sc q).toNatClampNeg = sv q
theorem p2_last {sz : Nat} (hz : sz ≤ 6) (sh : Nat → Int32) (hh : ∀ i, i < sz → In 0 40 (sh i)) : ∀ (d i f : Nat) (x : Int32), i + d = sz → d < f → In (-1) 40 x → (∀ q, q < i → (sh q).toInt ≤ x.toInt) → ∃ y, f_X2_lastHour_4 (nI sz) sh f x (nI i) = some y ∧ In (-1) 40 y ∧ ∀ q, q < sz → (sh q).toInt ≤ y.toInt := by
  intro d
  induction d with
  | zero =>
    intro i f x h1 h2 h3 h4
    obtain ⟨f, rfl⟩ : ∃ m, f = m + 1 := ⟨f - 1, by omega⟩
    exact ⟨x, by rw [f_X2_lastHour_4, if_pos (nI_le (by omega) (by omega))], h3, fun q hq => h4 q (by omega)⟩
  | succ d ih =>
    intro i f x h1 h2 h3 h4
    obtain ⟨f, rfl⟩ : ∃ m, f = m + 1 := ⟨f - 1, by omega⟩
    have hi := hh i (by omega)
    rw [f_X2_lastHour_4, if_neg (nI_ge (by omega) (by omega)), ck_nI (by omega) (by decide), nI_clamp (by omega), nI_1]
    unfold bd
    dsimp only
    by_cases c : x < sh i
    · rw [if_pos c]
      have c' := i_lt.mp c
      refine ih (i + 1) f (sh i) (by omega) (by omega) ⟨by have := hi.1; omega, hi.2⟩ (fun q hq => ?_)
      by_cases e : q = i
      · subst e; exact Int.le_refl _
      · have := h4 q (by omega); omega
    · rw [if_neg c]
      have c' : ¬ x.toInt < (sh i).toInt := fun q => c (i_lt.mpr q)
      refine ih (i + 1) f x (by omega) (by omega) h3 (fun q hq => ?_)
      by_cases e : q = i
      · subst e; omega
      · exact h4 q (by omega)
theorem p2_agrees {sz nc : Nat} (hz : sz ≤ 6) (hc : nc ≤ 5) {sh sc sv : Nat → Int32} (hs : ∀ i, i < sz → In 0 ((nc : Int) - 1) (sc i)) (chg : Nat → Int32) (n : Nat) : ∀ (d i f : Nat), i + d = sz → d < f → (f_X2_agrees_2 (nI n) (nI sz) sh sc sv chg f (nI i) = some 1 ∧ ∀ q, i ≤ q → q < sz → sh q = nI n → chg (sc q).toNatClampNeg = sv q) ∨ (f_X2_agrees_2 (nI n) (nI sz) sh sc sv chg f (nI i) = some 0 ∧ ∃ q, q < sz ∧ sh q = nI n ∧ ¬ chg (sc q).toNatClampNeg = sv q) := by
  intro d
  induction d with
  | zero =>
    intro i f h1 h2
    obtain ⟨f, rfl⟩ : ∃ m, f = m + 1 := ⟨f - 1, by omega⟩
    exact Or.inl ⟨by rw [f_X2_agrees_2, if_pos (nI_le (by omega) (by omega))], fun q g1 g2 => by omega⟩
  | succ d ih =>
    intro i f h1 h2
    obtain ⟨f, rfl⟩ : ∃ m, f = m + 1 := ⟨f - 1, by omega⟩
    obtain ⟨c, hc1, hc2⟩ := In_cell (by omega) (hs i (by omega))
    have hr : ∀ X : Option Int32, ck (sc i) 5 X = X := fun X => by rw [hc2]; exact ck_nI (by omega) (by decide)
    rw [f_X2_agrees_2, if_neg (nI_ge (by omega) (by omega)), ck_nI (by omega) (by decide), ck_nI (by omega) (by decide), ck_nI (by omega) (by decide), nI_clamp (by omega), hr, nI_1]
    by_cases c1 : sh i = nI n
    · rw [if_pos c1]
      by_cases c2 : chg (sc i).toNatClampNeg = sv i
      · rw [if_pos c2]
        rcases ih (i + 1) f (by omega) (by omega) with ⟨a, b⟩ | ⟨a, b⟩
        · refine Or.inl ⟨a, fun q g1 g2 g3 => ?_⟩
          by_cases e : q = i
          · subst e; exact c2
          · exact b q (by omega) g2 g3
        · exact Or.inr ⟨a, b⟩
      · rw [if_neg c2]
        exact Or.inr ⟨rfl, i, by omega, c1, c2⟩
    · rw [if_neg c1]
      rcases ih (i + 1) f (by omega) (by omega) with ⟨a, b⟩ | ⟨a, b⟩
      · refine Or.inl ⟨a, fun q g1 g2 g3 => ?_⟩
        by_cases e : q = i
        · subst e; exact absurd g3 c1
        · exact b q (by omega) g2 g3
      · exact Or.inr ⟨a, b⟩
/-- the class asks hour by hour -/
theorem seen_c {nc ns hr sz : Nat} {kd rm ch lk pl m sh sc sv mSt : Nat → Int32} (h : MR nc ns hr kd rm ch lk pl m) (hS : SR nc sz sh sc sv mSt) {x : Int32} (hx : In (-1) 40 x) (hl : ∀ q, q < sz → (sh q).toInt ≤ x.toInt) : ∀ (d n f : Nat), n + d = 41 → d < f → ∃ a o, f_X5_trialIsAsSeen_10 x (nI sz) sh sc sv (nI nc) (nI ns) (-4) kd rm lk pl f (nI n) (trj nc ns kd rm lk pl (nI hr, 0, 0, 0, ch) n).1 (trj nc ns kd rm lk pl (nI hr, 0, 0, 0, ch) n).2.1 (trj nc ns kd rm lk pl (nI hr, 0, 0, 0, ch) n).2.2.1 (trj nc ns kd rm lk pl (nI hr, 0, 0, 0, ch) n).2.2.2.1 (trj nc ns kd rm lk pl (nI hr, 0, 0, 0, ch) n).2.2.2.2 = some (a, o) ∧ ((a = 1 ∧ ∀ q, q < sz → n ≤ (sh q).toNatClampNeg → crs nc ns hr kd rm ch lk pl (sh q).toNatClampNeg (sc q).toNatClampNeg = sv q) ∨ (a = 0 ∧ ∃ q, q < sz ∧ ¬ crs nc ns hr kd rm ch lk pl (sh q).toNatClampNeg (sc q).toNatClampNeg = sv q)) := by
  have hh := h.2.2.2
  intro d
  induction d with
  | zero =>
    intro n f h1 h2
    obtain ⟨f, rfl⟩ : ∃ m, f = m + 1 := ⟨f - 1, by omega⟩
    have hc : x < nI n := i_lt.mpr (by rw [nI_toInt (by omega)]; have := hx.2; omega)
    rw [f_X5_trialIsAsSeen_10, if_pos hc]
    refine ⟨_, _, rfl, Or.inl ⟨rfl, fun q hq hn => ?_⟩⟩
    obtain ⟨k, k1, k2, k3⟩ := In_nat (hS.2.2 q hq).2.2.2.1
    rw [k3, nI_clamp k2] at hn
    omega
  | succ d ih =>
    intro n f h1 h2
    obtain ⟨f, rfl⟩ : ∃ m, f = m + 1 := ⟨f - 1, by omega⟩
    rw [f_X5_trialIsAsSeen_10]
    by_cases hc : x < nI n
    · rw [if_pos hc]
      refine ⟨_, _, rfl, Or.inl ⟨rfl, fun q hq hn => ?_⟩⟩
      obtain ⟨k, k1, k2, k3⟩ := In_nat (hS.2.2 q hq).2.2.2.1
      have a1 := hl q hq
      have a2 := i_lt.mp hc
      rw [k3, nI_clamp k2] at hn
      rw [k3, nI_toInt k2] at a1
      rw [nI_toInt (by omega)] at a2
      omega
    · rw [if_neg hc]
      obtain ⟨a, b, m', c⟩ := trj_ok h n (by omega)
      obtain ⟨D, c', dm', sm', wm', is', m'', e1, e2, -⟩ := tnx_ok h.2.1 a (by omega) b c 0 0 0 0
      rcases p2_agrees (sh := sh) (sv := sv) hS.1 h.1.1 (fun i hi => (hS.2.2 i hi).2.2.2.2.1) (trj nc ns kd rm lk pl (nI hr, 0, 0, 0, ch) n).2.2.2.2 n sz 0 1000 (by omega) (by have := hS.1; omega) with ⟨g1, g2⟩ | ⟨g1, q, g2, g3, g4⟩
      · rw [ob1_s (show f_X2_agrees (nI n) (nI sz) sh sc sv (trj nc ns kd rm lk pl (nI hr, 0, 0, 0, ch) n).2.2.2.2 = some 1 from g1), i10, ob1_s e1, ob6_p e2, nI_1]
        obtain ⟨a', o, i1, i2⟩ := ih (n + 1) f (by omega) (by omega)
        refine ⟨a', o, i1, ?_⟩
        rcases i2 with ⟨j1, j2⟩ | j
        · refine Or.inl ⟨j1, fun q hq hn => ?_⟩
          obtain ⟨k, k1, k2, k3⟩ := In_nat (hS.2.2 q hq).2.2.2.1
          by_cases e : k = n
          · have := g2 q (Nat.zero_le _) hq (by rw [k3, e])
            rw [k3, nI_clamp k2, e]
            exact this
          · refine j2 q hq ?_
            rw [k3, nI_clamp k2] at hn ⊢
            omega
        · exact Or.inr j
      · rw [ob1_s (show f_X2_agrees (nI n) (nI sz) sh sc sv (trj nc ns kd rm lk pl (nI hr, 0, 0, 0, ch) n).2.2.2.2 = some 0 from g1), i00]
        refine ⟨_, _, rfl, Or.inr ⟨rfl, q, g2, ?_⟩⟩
        rw [g3, nI_clamp (by omega)]
        exact g4
theorem seen_class {nc ns hr sz : Nat} {kd rm ch lk pl m sh sc sv mSt : Nat → Int32} (h : MR nc ns hr kd rm ch lk pl m) (hS : SR nc sz sh sc sv mSt) : ∃ a o, f_X5_trialIsAsSeen (nI sz) sh sc sv (nI nc) (nI ns) (nI hr) 0 0 0 (-4) kd rm ch lk pl = some (a, o) ∧ ((a = 1 ∧ Good sz sh sc sv (crs nc ns hr kd rm ch lk pl)) ∨ (a = 0 ∧ ¬ Good sz sh sc sv (crs nc ns hr kd rm ch lk pl))) := by
  obtain ⟨x, e1, e2, e3⟩ := p2_last hS.1 sh (fun i hi => (hS.2.2 i hi).2.2.2.1) sz 0 1000 (-1) (by omega) (by have := hS.1; omega) (by unfold In; decide) (fun q hq => by omega)
  obtain ⟨a, o, g1, g2⟩ := seen_c h hS e2 e3 41 0 1000 (by omega) (by omega)
  unfold f_X5_trialIsAsSeen
  rw [ob1_s (show f_X2_lastHour (nI sz) sh = some x from e1)]
  refine ⟨a, o, g1, ?_⟩
  rcases g2 with ⟨j1, j2⟩ | ⟨j1, q, j2, j3⟩
  · exact Or.inl ⟨j1, fun q hq => j2 q hq (Nat.zero_le _)⟩
  · exact Or.inr ⟨j1, fun g => j3 (g q j2)⟩
/-! the reference writes all charges down first -/
theorem p6_is22 {nc ns hr n : Nat} (hn : n ≤ 40) {kd rm ch lk pl mNow : Nat → Int32} (hW : WR nc kd rm ch lk) (hR : RR nc ns hr kd rm ch lk pl mNow) (K : Int32 → Int32 → Int32 → Int32 → Int32 → (Nat → Int32) → (Nat → Int32) → Option (Int32 × Int32 × Int32 × Int32 × Int32 × Int32 × (Nat → Int32) × (Nat → Int32))) (dm sm wm is : Int32) (mSt : Nat → Int32) : ∀ (d c f : Nat) (chg : Nat → Int32), c + d = nc → d < f → ∃ chg', f_X6_isSoWith_22 K (nI n) (-4) dm sm wm is mSt mNow f (nI c) chg = (ob5 (f_X6_hoursGo 1 (-4) dm sm wm is mNow) fun a b c d e => K (nI n + 1) a b c d e chg') ∧ (∀ q, c ≤ q → q < nc → chg' (5 * n + q) = ch q) ∧ ∀ k, (k < 5 * n + c ∨ 5 * n + 5 ≤ k) → chg' k = chg k := by
  have hc := hW.1
  intro d
  induction d with
  | zero =>
    intro c f chg h1 h2
    obtain ⟨f, rfl⟩ : ∃ m, f = m + 1 := ⟨f - 1, by omega⟩
    refine ⟨chg, ?_, fun q g1 g2 => by omega, fun _ _ => rfl⟩
    rw [f_X6_isSoWith_22, show (20 : Int32) = nI 20 from rfl, ck_nI (by decide) (by decide), nI_clamp (by decide), hR.1.1, if_pos (nI_le (by omega) (by omega))]
  | succ d ih =>
    intro c f chg h1 h2
    obtain ⟨f, rfl⟩ : ∃ m, f = m + 1 := ⟨f - 1, by omega⟩
    obtain ⟨chg', e1, e2, e3⟩ := ih (c + 1) f (upd chg (5 * n + c) (ch c)) (by omega) (by omega)
    refine ⟨chg', ?_, fun q g1 g2 => ?_, fun k hk => ?_⟩
    · rw [f_X6_isSoWith_22, show (20 : Int32) = nI 20 from rfl, ck_nI (by decide) (by decide), nI_clamp (show 20 < 2 ^ 31 by decide), hR.1.1, if_neg (nI_ge (by omega) (by omega)), ob1_s (p6_of2 (by omega) mNow), show (5 : Int32) = nI 5 from rfl, pk_mul, nI_add, ck_nI (by omega) (by decide), nI_clamp (by omega), nI_1, ← (hR.1.2 c (by omega)).2.2.1, e1]
    · by_cases e : q = c
      · subst e; rw [e3 _ (by omega), upd_s]
      · exact e2 q (by omega) g2
    · rw [e3 k (by omega), upd_n (by omega)]
theorem p6_is13 {nc ns hr : Nat} {kd rm ch lk pl m0 mSt : Nat → Int32} (h : MR nc ns hr kd rm ch lk pl m0) : ∀ (d n f : Nat) (dm sm wm is : Int32) (mNow chg : Nat → Int32), n + d = 41 → d < f → RR nc ns (hr + n) kd rm (crs nc ns hr kd rm ch lk pl n) lk pl mNow → (∀ n', n' < n → ∀ c, c < nc → chg (5 * n' + c) = crs nc ns hr kd rm ch lk pl n' c) → ∃ dm' sm' wm' is' m' chg', f_X6_isSoWith_13 (-4) mSt f (nI n) dm sm wm is mNow chg = f_X6_isSoWith_74 (-4) dm' sm' wm' is' mSt m' chg' 1000 1 0 ∧ ∀ n', n' ≤ 40 → ∀ c, c < nc → chg' (5 * n' + c) = crs nc ns hr kd rm ch lk pl n' c := by
  have hh := h.2.2.2
  intro d
  induction d with
  | zero =>
    intro n f dm sm wm is mNow chg h1 h2 hR hC
    obtain ⟨f, rfl⟩ : ∃ m, f = m + 1 := ⟨f - 1, by omega⟩
    have hn : n = 41 := by omega
    subst hn
    rw [f_X6_isSoWith_13, if_pos (show (40 : Int32) < nI 41 by decide)]
    exact ⟨_, _, _, _, _, _, rfl, fun n' hn c hc => hC n' (by omega) c hc⟩
  | succ d ih =>
    intro n f dm sm wm is mNow chg h1 h2 hR hC
    obtain ⟨f, rfl⟩ : ∃ m, f = m + 1 := ⟨f - 1, by omega⟩
    obtain ⟨a, b, -⟩ := trj_ok h n (by omega)
    obtain ⟨D, c', dm', sm', wm', is', m', -, -, -, e4, -, e6⟩ := tnx_ok h.2.1 a (by omega) b hR dm sm wm is
    have hc := h.1.1
    obtain ⟨chg', g1, g2, g3⟩ := p6_is22 (n := n) (by omega) b hR (f_X6_isSoWith_13 (-4) mSt f) dm sm wm is mSt nc 0 1000 chg (by omega) (by omega)
    rw [f_X6_isSoWith_13, if_neg (show ¬ (40 : Int32) < nI n from nI_nlt (a := 40) (by omega) (by omega)), show (0 : Int32) = nI 0 from rfl, g1, ob5_s e4, nI_1]
    refine ih (n + 1) f dm' sm' wm' is' m' chg' (by omega) (by omega) e6 (fun n' hn c hc => ?_)
    by_cases e : n' = n
    · subst e; exact g2 c (Nat.zero_le _) hc
    · rw [g3 _ (by omega)]; exact hC n' (by omega) c hc
theorem p6_is74 {nc sz : Nat} (hc : nc ≤ 5) {sh sc sv mSt : Nat → Int32} (hS : SR nc sz sh sc sv mSt) {C : Nat → Nat → Int32} {chg : Nat → Int32} (hC : ∀ n', n' ≤ 40 → ∀ c, c < nc → chg (5 * n' + c) = C n' c) (dm sm wm is : Int32) (m : Nat → Int32) : ∀ (d i f : Nat) (b : Int32), i + d = sz → d < f → ((b = 1 ∧ ∀ q, q < i → C (sh q).toNatClampNeg (sc q).toNatClampNeg = sv q) ∨ (b = 0 ∧ ¬ Good sz sh sc sv C)) → ∃ a, f_X6_isSoWith_74 (-4) dm sm wm is mSt m chg f b (nI i) = some (a, (-4), dm, sm, wm, is, m, chg) ∧ ((a = 1 ∧ Good sz sh sc sv C) ∨ (a = 0 ∧ ¬ Good sz sh sc sv C)) := by
  intro d
  induction d with
  | zero =>
    intro i f b h1 h2 h3
    obtain ⟨f, rfl⟩ : ∃ m, f = m + 1 := ⟨f - 1, by omega⟩
    have hz := hS.1
    rw [f_X6_isSoWith_74, show (42 : Int32) = nI 42 from rfl, ck_nI (by decide) (by decide), nI_clamp (by decide), hS.2.1, if_pos (nI_le (by omega) (by omega))]
    rcases h3 with ⟨rfl, g⟩ | ⟨rfl, g⟩
    · rw [cz1]
      exact ⟨_, rfl, Or.inl ⟨rfl, fun q hq => g q (by omega)⟩⟩
    · rw [cz0]
      exact ⟨_, rfl, Or.inr ⟨rfl, g⟩⟩
  | succ d ih =>
    intro i f b h1 h2 h3
    obtain ⟨f, rfl⟩ : ∃ m, f = m + 1 := ⟨f - 1, by omega⟩
    have hz := hS.1
    obtain ⟨s1, s2, s3, s4, s5, s6⟩ := hS.2.2 i (by omega)
    rw [f_X6_isSoWith_74, show (42 : Int32) = nI 42 from rfl, ck_nI (by decide) (by decide), nI_clamp (show 42 < 2 ^ 31 by decide), hS.2.1, if_neg (nI_ge (by omega) (by omega)), show (43 : Int32) = nI 43 from rfl, show (3 : Int32) = nI 3 from rfl, pk_mul, nI_add]
    unfold bd
    dsimp only
    rw [nI_1, nI_1, show (2 : Int32) = nI 2 from rfl, nI_add, ck_nI (by omega) (by decide), ck_nI (by omega) (by decide), ck_nI (show 43 + 3 * i + 2 < 183 by omega) (by decide), nI_clamp (show 43 + 3 * i < 2 ^ 31 by omega), nI_clamp (show 43 + 3 * i + 1 < 2 ^ 31 by omega), nI_clamp (show 43 + 3 * i + 2 < 2 ^ 31 by omega), s1, show 43 + 3 * i + 1 = 44 + 3 * i by omega, s2, show 43 + 3 * i + 2 = 45 + 3 * i by omega, s3]
    obtain ⟨hn, k1, k2, k3⟩ := In_nat s4
    obtain ⟨c, c1, c2⟩ := In_cell (by omega) s5
    have hq : C (sh i).toNatClampNeg (sc i).toNatClampNeg = chg (5 * hn + c) := by rw [k3, c2, nI_clamp k2, nI_clamp (by omega)]; exact (hC hn (by omega) c c1).symm
    rw [k3, c2, show (5 : Int32) = nI 5 from rfl, pk_mul, nI_add, ck_nI (by omega) (by decide), nI_clamp (by omega)]
    rcases h3 with ⟨rfl, g⟩ | ⟨rfl, g⟩
    · rw [i10]
      by_cases e : chg (5 * hn + c) = sv i
      · rw [if_pos e]
        refine ih (i + 1) f 1 (by omega) (by omega) (Or.inl ⟨rfl, fun q hq2 => ?_⟩)
        by_cases e2 : q = i
        · subst e2; rw [hq]; exact e
        · exact g q (by omega)
      · rw [if_neg e]
        exact ih (i + 1) f 0 (by omega) (by omega) (Or.inr ⟨rfl, fun g2 => e (hq.symm.trans (g2 i (by omega)))⟩)
    · rw [i00]
      exact ih (i + 1) f 0 (by omega) (by omega) (Or.inr ⟨rfl, g⟩)
/-- both sides say the same of a row that might be -/
theorem seen_both {nc ns hr sz : Nat} {kd rm ch lk pl M sh sc sv mSt : Nat → Int32} (h : MR nc ns hr kd rm ch lk pl M) (hS : SR nc sz sh sc sv mSt) : ∃ a : Int32, ((a = 1 ∧ Good sz sh sc sv (crs nc ns hr kd rm ch lk pl)) ∨ (a = 0 ∧ ¬ Good sz sh sc sv (crs nc ns hr kd rm ch lk pl))) ∧ (∀ kd' rm' ch' lk' pl', MR nc ns hr kd' rm' ch' lk' pl' M → ∃ o, f_X5_trialIsAsSeen (nI sz) sh sc sv (nI nc) (nI ns) (nI hr) 0 0 0 (-4) kd' rm' ch' lk' pl' = some (a, o)) ∧ ∀ (m : Nat → Int32) (is : Int32) (chg : Nat → Int32), (∀ k, k < 61 → m k = M k) → ∃ dm' sm' wm' is' m' chg', f_X6_isSoWith_13 (-4) mSt 1000 0 0 0 0 is m chg = some (a, (-4), dm', sm', wm', is', m', chg') ∧ ∀ n', n' ≤ 40 → ∀ c, c < nc → chg' (5 * n' + c) = crs nc ns hr kd rm ch lk pl n' c := by
  have hc := h.1.1
  have hz := hS.1
  obtain ⟨a, o, e1, e2⟩ := seen_class h hS
  refine ⟨a, e2, fun kd' rm' ch' lk' pl' h' => ?_, fun m is chg hm => ?_⟩
  · obtain ⟨a', o', g1, g2⟩ := seen_class h' hS
    have same : Good sz sh sc sv (crs nc ns hr kd rm ch lk pl) ↔ Good sz sh sc sv (crs nc ns hr kd' rm' ch' lk' pl') := by
      have pt : ∀ q, q < sz → crs nc ns hr kd rm ch lk pl (sh q).toNatClampNeg (sc q).toNatClampNeg = crs nc ns hr kd' rm' ch' lk' pl' (sh q).toNatClampNeg (sc q).toNatClampNeg := fun q hq => by
        obtain ⟨s1, s2, s3, s4, s5, s6⟩ := hS.2.2 q hq
        obtain ⟨hn, k1, k2, k3⟩ := In_nat s4
        obtain ⟨c, c1, c2⟩ := In_cell (by omega) s5
        rw [k3, c2, nI_clamp k2, nI_clamp (by omega)]
        exact crs_same h h' (by omega) c1
      exact ⟨fun g q hq => (pt q hq).symm.trans (g q hq), fun g q hq => (pt q hq).trans (g q hq)⟩
    refine ⟨o', ?_⟩
    rcases e2 with ⟨rfl, g⟩ | ⟨rfl, g⟩
    · rcases g2 with ⟨rfl, _⟩ | ⟨_, g'⟩
      · exact g1
      · exact absurd (same.mp g) g'
    · rcases g2 with ⟨_, g'⟩ | ⟨rfl, _⟩
      · exact absurd (same.mpr g') g
      · exact g1
  · obtain ⟨dm', sm', wm', is', m', chg', g1, g2⟩ := p6_is13 (mSt := mSt) h 41 0 1000 0 0 0 is m chg (by omega) (by omega) (MR_st h hm).2.2.1 (fun n' hn => by omega)
    obtain ⟨a', j1, j2⟩ := p6_is74 hc hS (C := crs nc ns hr kd rm ch lk pl) g2 dm' sm' wm' is' m' sz 0 1000 1 (by omega) (by omega) (Or.inl ⟨rfl, fun q hq => by omega⟩)
    have ea : a' = a := by
      rcases e2 with ⟨rfl, g⟩ | ⟨rfl, g⟩
      · rcases j2 with ⟨q, _⟩ | ⟨_, g'⟩
        · exact q
        · exact absurd g g'
      · rcases j2 with ⟨_, g'⟩ | ⟨q, _⟩
        · exact absurd g' g
        · exact q
    subst ea
    exact ⟨dm', sm', wm', is', m', chg', g1.trans j1, g2⟩
