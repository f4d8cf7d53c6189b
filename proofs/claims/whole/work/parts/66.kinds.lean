/-! kinds, leaks -/
theorem or_c : ∀ i, i < 10 → (1 : Int32) <<< (nI i &&& 31) = nI (2 ^ i) ∧ (0 : Int32) <<< (nI i &&& 31) = 0 := by decide +kernel
theorem ob8_p {A1 A2 A3 A4 A5 A6 A7 A8 B : Type} {a1 : A1} {a2 : A2} {a3 : A3} {a4 : A4} {a5 : A5} {a6 : A6} {a7 : A7} {a8 : A8} {x : Option (A1 × A2 × A3 × A4 × A5 × A6 × A7 × A8)} {k : A1 → A2 → A3 → A4 → A5 → A6 → A7 → A8 → Option B} (h : x = some (a1, a2, a3, a4, a5, a6, a7, a8)) : ob8 x k = k a1 a2 a3 a4 a5 a6 a7 a8 := by rw [h]; rfl
theorem p6_so' {v1 : Nat} (hv : v1 < 61) {v br dm sm wm is a : Int32} {mSt mNow chg M : Nat → Int32} {nc : Nat} {C : Nat → Nat → Int32} (hM : ∀ k, k < 61 → M k = upd mSt v1 v k) (hk : ∀ (m : Nat → Int32) (is : Int32) (chg : Nat → Int32), (∀ k, k < 61 → m k = M k) → ∃ dm' sm' wm' is' m' chg', f_X6_isSoWith_13 (-4) mSt 1000 0 0 0 0 is m chg = some (a, (-4), dm', sm', wm', is', m', chg') ∧ ∀ n', n' ≤ 40 → ∀ c, c < nc → chg' (5 * n' + c) = C n' c) : ∃ dm' sm' wm' is' m' chg', f_X6_isSoWith (nI v1) v br dm sm wm is mSt mNow chg = some (a, (-4), dm', sm', wm', is', m', chg') ∧ ∀ n', n' ≤ 40 → ∀ c, c < nc → chg' (5 * n' + c) = C n' c := by
  obtain ⟨m1, e1, e2⟩ := p6_starts br dm sm wm mSt mNow
  obtain ⟨dm', sm', wm', is', m', chg', g, g2⟩ := hk (upd m1 v1 v) is chg (fun k hk => by
    rw [hM k hk]
    by_cases c : k = v1
    · subst c; rw [upd_s, upd_s]
    · rw [upd_n c, upd_n c]; exact e2 k hk)
  unfold f_X6_isSoWith
  rw [ob5_s e1, ck_nI hv (by decide), nI_clamp (by omega)]
  exact ⟨dm', sm', wm', is', m', chg', g, g2⟩
theorem kinds_loop {nc ns hr : Nat} {kd rm ch lk pl mSt : Nat → Int32} (h : MR nc ns hr kd rm ch lk pl mSt) (st wa dn : Int32) {sz j : Nat} {sh sc sv : Nat → Int32} (hS : SR nc sz sh sc sv mSt) (hj : j < nc) : ∀ (d i f f' : Nat) (b br dm sm wm is : Int32) (tCells tSigns tHour tStops tWaste tDone tBridged : Int32) (tKind tRoom tCharge tLeak tPlan : Nat → Int32) (mNow chg : Nat → Int32), i + d = 4 → d < f → d < f' → ∃ r o o', f_X5_kinds_14 (nI j) (nI nc) (nI ns) (nI hr) st wa dn kd rm ch lk pl (nI sz) sh sc sv f b (nI i) tCells tSigns tHour tStops tWaste tDone tBridged tKind tRoom tCharge tLeak tPlan = some (r, o) ∧ f_X6_which_16 (nI j) 0 3 mSt f' b (nI i) br dm sm wm is mNow chg = some (r, o') := by
  have hc := h.1.1
  intro d
  induction d with
  | zero =>
    intro i f f' b br dm sm wm is tCells tSigns tHour tStops tWaste tDone tBridged tKind tRoom tCharge tLeak tPlan mNow chg h1 h2 h3
    obtain ⟨f, rfl⟩ : ∃ m, f = m + 1 := ⟨f - 1, by omega⟩
    obtain ⟨f', rfl⟩ : ∃ m, f' = m + 1 := ⟨f' - 1, by omega⟩
    have hi : i = 4 := by omega
    subst hi
    rw [f_X5_kinds_14, f_X6_which_16, if_pos (show (4 : Int32) ≤ nI 4 by decide), if_pos (show (3 : Int32) < nI 4 by decide)]
    exact ⟨_, _, _, rfl, rfl⟩
  | succ d ih =>
    intro i f f' b br dm sm wm is tCells tSigns tHour tStops tWaste tDone tBridged tKind tRoom tCharge tLeak tPlan mNow chg h1 h2 h3
    obtain ⟨f, rfl⟩ : ∃ m, f = m + 1 := ⟨f - 1, by omega⟩
    obtain ⟨f', rfl⟩ : ∃ m, f' = m + 1 := ⟨f' - 1, by omega⟩
    have hv := nI_toInt (show i < 2 ^ 31 by omega)
    have hM := MR_up h (k := 4 * j) (by omega) ((WR_upk h.1 hj (nI i)).1 (by omega) (by omega)) (RA_upk h.2.2.1.1 hc hj (nI i)).1
    have h0 := MR_start h tKind tRoom tCharge tLeak tPlan (m' := mSt) (fun _ _ => rfl)
    have hM2 := MR_up h0 (k := 4 * j) (by omega) ((WR_upk h0.1 hj (nI i)).1 (by omega) (by omega)) (RA_upk h0.2.2.1.1 hc hj (nI i)).1
    obtain ⟨a, a1, a2, a3⟩ := seen_both hM hS
    obtain ⟨o, g1⟩ := a2 _ _ _ _ _ hM2
    obtain ⟨dm', sm', wm', is', m', chg', g2, -⟩ := p6_so' (v1 := 4 * j) (by omega) (v := nI i) (br := br) (dm := dm) (sm := sm) (wm := wm) (is := is) (mNow := mNow) (chg := chg) (fun _ _ => rfl) a3
    rw [f_X5_kinds_14, f_X6_which_16, if_neg (show ¬ (4 : Int32) ≤ nI i from nI_ge (b := 4) (by omega) (by omega)), if_neg (show ¬ (3 : Int32) < nI i from nI_nlt (a := 3) (by omega) (by omega)), ob12_s (p5_start ..), ck_nI (by omega) (by decide), nI_clamp (by omega), ob6_p g1, show (4 * nI j + 0 : Int32) = nI (4 * j) from p6_ix j 0, ob8_p g2]
    unfold bd
    dsimp only
    have hs := or_c i (by omega)
    rcases a1 with ⟨rfl, _⟩ | ⟨rfl, _⟩
    · rw [i10, ob1_s (p6_flagv (Or.inr rfl)), nI_1]
      exact ih (i + 1) f f' _ _ _ _ _ _ _ _ _ _ _ _ _ _ _ _ _ _ _ _ (by omega) (by omega) (by omega)
    · rw [i00, ob1_s (p6_flagv (Or.inl rfl)), nI_1, hs.2]
      exact ih (i + 1) f f' _ _ _ _ _ _ _ _ _ _ _ _ _ _ _ _ _ _ _ _ (by omega) (by omega) (by omega)
theorem op_kinds {nc ns hr : Nat} {kd rm ch lk pl mSt : Nat → Int32} (h : MR nc ns hr kd rm ch lk pl mSt) (st wa dn : Int32) {sz : Nat} {sh sc sv : Nat → Int32} (hS : SR nc sz sh sc sv mSt) (v1 : Int32) (br dm sm wm is : Int32) (mNow : Nat → Int32) (tCells tSigns tHour tStops tWaste tDone tBridged : Int32) (tKind tRoom tCharge tLeak tPlan : Nat → Int32) (chg : Nat → Int32) : ∃ r o o', f_X5_kinds v1 (nI nc) (nI ns) (nI hr) st wa dn kd rm ch lk pl tCells tSigns tHour tStops tWaste tDone tBridged tKind tRoom tCharge tLeak tPlan (nI sz) sh sc sv = some (r, o) ∧ f_X6_kinds v1 br dm sm wm is mSt mNow chg = some (r, o') := by
  have hc := h.1.1
  have hA := h.2.2.1.1
  unfold f_X5_kinds f_X6_kinds f_X6_which
  by_cases c0 : In 0 ((nc : Int) - 1) v1
  · rw [ob1_s (p5_cell_t (by omega) c0), ob1_s (p6_unit_t hA.1 (by omega) c0), i10, i10]
    obtain ⟨j, hj, rfl⟩ := In_cell (by omega) c0
    obtain ⟨r, o, o', e1, e2⟩ := kinds_loop h st wa dn hS hj 4 0 1000 1000 0 br dm sm wm is tCells tSigns tHour tStops tWaste tDone tBridged tKind tRoom tCharge tLeak tPlan mNow chg (by omega) (by omega) (by omega)
    obtain ⟨o1, o2, o3, o4, o5, o6, o7⟩ := o'
    rw [show (0 : Int32) = nI 0 from rfl] at e1 e2 ⊢
    rw [ob8_p e2]
    exact ⟨r, o, _, e1, rfl⟩
  · rw [ob1_s (p5_cell_f (by omega) c0), ob1_s (p6_unit_f hA.1 (by omega) c0), i00, i00]
    exact ⟨_, _, _, rfl, rfl⟩
/-! leaks: the flag of each leak -/
/-- of cell j with leak v: what was seen agrees -/
def lkG (nc ns hr sz j : Nat) (kd rm ch lk pl sh sc sv : Nat → Int32) (v : Nat) : Prop := Good sz sh sc sv (crs nc ns hr kd rm ch (upd lk j (nI v)) pl)
def bsum (g : Nat → Bool) : Nat → Nat
  | 0 => 0
  | v + 1 => bsum g v + (if g v = true then 2 ^ v else 0)
theorem bsum_lt (g : Nat → Bool) : ∀ v, bsum g v < 2 ^ v := by
  intro v
  induction v with
  | zero => exact Nat.one_pos
  | succ v ih =>
    rw [bsum, Nat.pow_succ]
    split <;> omega
theorem or_b : ∀ i, i < 10 → ∀ b, b < 2 ^ i → nI b ||| nI (2 ^ i) = nI (b + 2 ^ i) := by decide +kernel
theorem or_z : ∀ b, b < 1024 → nI b ||| 0 = nI b := by decide +kernel
theorem MR_lk {nc ns hr : Nat} {kd rm ch lk pl mSt : Nat → Int32} (h : MR nc ns hr kd rm ch lk pl mSt) {j v : Nat} (hj : j < nc) (hv : v ≤ 9) : MR nc ns hr kd rm ch (upd lk j (nI v)) pl (upd mSt (4 * j + 3) (nI v)) := by
  have hv1 := nI_toInt (show v < 2 ^ 31 by omega)
  have hc := h.1.1
  exact MR_up h (k := 4 * j + 3) (by omega) ((WR_upk h.1 hj (nI v)).2.2 (by omega) (by omega)) (RA_upk h.2.2.1.1 hc hj (nI v)).2.2
theorem leaks_c {nc ns hr : Nat} {kd rm ch lk pl mSt : Nat → Int32} (h : MR nc ns hr kd rm ch lk pl mSt) (st wa dn : Int32) {sz j : Nat} {sh sc sv : Nat → Int32} (hS : SR nc sz sh sc sv mSt) (hj : j < nc) {g : Nat → Bool} (hg : ∀ v, v ≤ 9 → (g v = true ↔ lkG nc ns hr sz j kd rm ch lk pl sh sc sv v)) : ∀ (d i f : Nat) (tCells tSigns tHour tStops tWaste tDone tBridged : Int32) (tKind tRoom tCharge tLeak tPlan : Nat → Int32), i + d = 10 → d < f → ∃ o, f_X5_leaksAsSeen_4 (nI j) (nI nc) (nI ns) (nI hr) st wa dn kd rm ch lk pl (nI sz) sh sc sv f (nI (bsum g i)) (nI i) tCells tSigns tHour tStops tWaste tDone tBridged tKind tRoom tCharge tLeak tPlan = some (nI (bsum g 10), o) := by
  have hc := h.1.1
  intro d
  induction d with
  | zero =>
    intro i f tCells tSigns tHour tStops tWaste tDone tBridged tKind tRoom tCharge tLeak tPlan h1 h2
    obtain ⟨f, rfl⟩ : ∃ m, f = m + 1 := ⟨f - 1, by omega⟩
    have hi : i = 10 := by omega
    subst hi
    rw [f_X5_leaksAsSeen_4, if_pos (show (9 : Int32) < nI 10 by decide)]
    exact ⟨_, rfl⟩
  | succ d ih =>
    intro i f tCells tSigns tHour tStops tWaste tDone tBridged tKind tRoom tCharge tLeak tPlan h1 h2
    obtain ⟨f, rfl⟩ : ∃ m, f = m + 1 := ⟨f - 1, by omega⟩
    have hM := MR_lk h hj (v := i) (by omega)
    have hM2 := MR_lk (MR_start h tKind tRoom tCharge tLeak tPlan (m' := mSt) (fun _ _ => rfl)) hj (v := i) (by omega)
    obtain ⟨a, a1, a2, -⟩ := seen_both hM hS
    obtain ⟨o, g1⟩ := a2 _ _ _ _ _ hM2
    have hb := bsum_lt g i
    have hb10 : 2 ^ i < 1024 := by
      have : 2 ^ i ≤ 2 ^ 9 := Nat.pow_le_pow_right (by decide) (by omega)
      omega
    rw [f_X5_leaksAsSeen_4, if_neg (show ¬ (9 : Int32) < nI i from nI_nlt (a := 9) (by omega) (by omega)), ob12_s (p5_start ..), ck_nI (by omega) (by decide), nI_clamp (by omega), ob6_p g1]
    unfold bd
    dsimp only
    have hs := or_c i (by omega)
    have hgi := hg i (by omega)
    rcases a1 with ⟨rfl, q⟩ | ⟨rfl, q⟩
    · have hgt : g i = true := hgi.mpr q
      have e : bsum g (i + 1) = bsum g i + 2 ^ i := by rw [bsum, if_pos hgt]
      rw [i10, nI_1, hs.1, or_b i (by omega) _ hb, ← e]
      exact ih (i + 1) f _ _ _ _ _ _ _ _ _ _ _ _ (by omega) (by omega)
    · have hgt : ¬ g i = true := fun w => q (hgi.mp w)
      have e : bsum g (i + 1) = bsum g i := by rw [bsum, if_neg hgt, Nat.add_zero]
      rw [i00, nI_1, or_z _ (by omega), ← e]
      exact ih (i + 1) f _ _ _ _ _ _ _ _ _ _ _ _ (by omega) (by omega)
theorem leaks_m {nc ns hr : Nat} {kd rm ch lk pl mSt : Nat → Int32} (h : MR nc ns hr kd rm ch lk pl mSt) {sz j : Nat} {sh sc sv : Nat → Int32} (hS : SR nc sz sh sc sv mSt) (hj : j < nc) {g : Nat → Bool} (hg : ∀ v, v ≤ 9 → (g v = true ↔ lkG nc ns hr sz j kd rm ch lk pl sh sc sv v)) : ∀ (d i f' : Nat) (br dm sm wm is : Int32) (mNow chg : Nat → Int32), i + d = 10 → d < f' → ∃ o', f_X6_which_16 (nI j) 3 9 mSt f' (nI (bsum g i)) (nI i) br dm sm wm is mNow chg = some (nI (bsum g 10), o') := by
  have hc := h.1.1
  intro d
  induction d with
  | zero =>
    intro i f br dm sm wm is mNow chg h1 h2
    obtain ⟨f, rfl⟩ : ∃ m, f = m + 1 := ⟨f - 1, by omega⟩
    have hi : i = 10 := by omega
    subst hi
    rw [f_X6_which_16, if_pos (show (9 : Int32) < nI 10 by decide)]
    exact ⟨_, rfl⟩
  | succ d ih =>
    intro i f br dm sm wm is mNow chg h1 h2
    obtain ⟨f, rfl⟩ : ∃ m, f = m + 1 := ⟨f - 1, by omega⟩
    have hM := MR_lk h hj (v := i) (by omega)
    obtain ⟨a, a1, -, a3⟩ := seen_both hM hS
    obtain ⟨dm', sm', wm', is', m', chg', g2, -⟩ := p6_so' (v1 := 4 * j + 3) (by omega) (v := nI i) (br := br) (dm := dm) (sm := sm) (wm := wm) (is := is) (mNow := mNow) (chg := chg) (fun _ _ => rfl) a3
    have hb := bsum_lt g i
    have hb10 : 2 ^ i < 1024 := by
      have : 2 ^ i ≤ 2 ^ 9 := Nat.pow_le_pow_right (by decide) (by omega)
      omega
    rw [f_X6_which_16, if_neg (show ¬ (9 : Int32) < nI i from nI_nlt (a := 9) (by omega) (by omega)), show (4 * nI j + 3 : Int32) = nI (4 * j + 3) from p6_ix j 3, ob8_p g2]
    unfold bd
    dsimp only
    have hs := or_c i (by omega)
    have hgi := hg i (by omega)
    rcases a1 with ⟨rfl, q⟩ | ⟨rfl, q⟩
    · have hgt : g i = true := hgi.mpr q
      have e : bsum g (i + 1) = bsum g i + 2 ^ i := by rw [bsum, if_pos hgt]
      rw [ob1_s (p6_flagv (Or.inr rfl)), nI_1, hs.1, or_b i (by omega) _ hb, ← e]
      exact ih (i + 1) f _ _ _ _ _ _ _ (by omega) (by omega)
    · have hgt : ¬ g i = true := fun w => q (hgi.mp w)
      have e : bsum g (i + 1) = bsum g i := by rw [bsum, if_neg hgt, Nat.add_zero]
      rw [ob1_s (p6_flagv (Or.inl rfl)), nI_1, hs.2, or_z _ (by omega), ← e]
      exact ih (i + 1) f _ _ _ _ _ _ _ (by omega) (by omega)
theorem lkG_ex (nc ns hr sz j : Nat) (kd rm ch lk pl sh sc sv : Nat → Int32) : ∃ g : Nat → Bool, ∀ v, v ≤ 9 → (g v = true ↔ lkG nc ns hr sz j kd rm ch lk pl sh sc sv v) := by
  refine ⟨fun v => @decide (lkG nc ns hr sz j kd rm ch lk pl sh sc sv v) (Nat.decidableBallLT sz _), fun v _ => ?_⟩
  exact @decide_eq_true_iff _ (Nat.decidableBallLT sz _)
theorem op_leaks {nc ns hr : Nat} {kd rm ch lk pl mSt : Nat → Int32} (h : MR nc ns hr kd rm ch lk pl mSt) (st wa dn : Int32) {sz : Nat} {sh sc sv : Nat → Int32} (hS : SR nc sz sh sc sv mSt) (v1 : Int32) (br dm sm wm is : Int32) (mNow : Nat → Int32) (tCells tSigns tHour tStops tWaste tDone tBridged : Int32) (tKind tRoom tCharge tLeak tPlan : Nat → Int32) (chg : Nat → Int32) : ∃ r o o', f_X5_leaks v1 (nI nc) (nI ns) (nI hr) st wa dn kd rm ch lk pl tCells tSigns tHour tStops tWaste tDone tBridged tKind tRoom tCharge tLeak tPlan (nI sz) sh sc sv = some (r, o) ∧ f_X6_leaks v1 br dm sm wm is mSt mNow chg = some (r, o') := by
  have hc := h.1.1
  have hA := h.2.2.1.1
  unfold f_X5_leaks f_X6_leaks f_X6_which f_X5_leaksAsSeen
  by_cases c0 : In 0 ((nc : Int) - 1) v1
  · rw [ob1_s (p5_cell_t (by omega) c0), ob1_s (p6_unit_t hA.1 (by omega) c0), i10, i10]
    obtain ⟨j, hj, rfl⟩ := In_cell (by omega) c0
    obtain ⟨g, hg⟩ := lkG_ex nc ns hr sz j kd rm ch lk pl sh sc sv
    obtain ⟨o, e1⟩ := leaks_c h st wa dn hS hj hg 10 0 1000 tCells tSigns tHour tStops tWaste tDone tBridged tKind tRoom tCharge tLeak tPlan (by omega) (by omega)
    obtain ⟨⟨o1, o2, o3, o4, o5, o6, o7⟩, e2⟩ := leaks_m h hS hj hg 10 0 1000 br dm sm wm is mNow chg (by omega) (by omega)
    rw [show bsum g 0 = 0 from rfl, show nI 0 = (0 : Int32) from rfl] at e1 e2
    rw [ob8_p e2, ob13_s e1]
    exact ⟨_, _, _, rfl, rfl⟩
  · rw [ob1_s (p5_cell_f (by omega) c0), ob1_s (p6_unit_f hA.1 (by omega) c0), i00, i00]
    exact ⟨_, _, _, rfl, rfl⟩
