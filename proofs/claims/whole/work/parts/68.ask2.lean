theorem va_up_s {α : Type} {f : Nat → α} {k : Nat} {v : α} : va_up f k v k = v := if_pos rfl
theorem va_up_n {α : Type} {f : Nat → α} {k j : Nat} {v : α} (h : ¬ j = k) : va_up f k v j = f j := if_neg h
/-- the class writes the courses down -/
theorem p5_lay_in {nc ns hr j v : Nat} {kd rm ch lk pl m : Nat → Int32} (h : MR nc ns hr kd rm ch lk pl m) (hj : j < nc) (hv : v < 10) (K : Int32 → Int32 → Int32 → Int32 → Int32 → Int32 → Int32 → Int32 → (Nat → Int32) → (Nat → Int32) → (Nat → Int32) → (Nat → Int32) → (Nat → Int32) → (Nat → Nat → Int32) → Option (Int32 × Int32 × Int32 × Int32 × Int32 × Int32 × Int32 × (Nat → Int32) × (Nat → Int32) × (Nat → Int32) × (Nat → Int32) × (Nat → Int32) × (Nat → Nat → Int32))) (v2 n1 n2 n3 n4 n5 n6 : Int32) (q1 q2 q3 q4 q5 : Nat → Int32) : ∀ (d n f : Nat) (crM : Nat → Nat → Int32), n + d = 41 → d < f → ∃ (tCells tSigns tHour tStops tWaste tDone tBridged : Int32) (tKind tRoom tCharge tLeak tPlan : Nat → Int32) (crM' : Nat → Nat → Int32), f_X5_layCourses_34 K (nI j) v2 (nI v) n1 n2 n3 n4 n5 n6 q1 q2 q3 q4 q5 (nI nc) (nI ns) (-4) kd rm lk pl f (nI n) (trj nc ns kd rm lk pl (nI hr, 0, 0, 0, ch) n).1 (trj nc ns kd rm lk pl (nI hr, 0, 0, 0, ch) n).2.1 (trj nc ns kd rm lk pl (nI hr, 0, 0, 0, ch) n).2.2.1 (trj nc ns kd rm lk pl (nI hr, 0, 0, 0, ch) n).2.2.2.1 (trj nc ns kd rm lk pl (nI hr, 0, 0, 0, ch) n).2.2.2.2 crM = K (nI (v + 1)) tCells tSigns tHour tStops tWaste tDone tBridged tKind tRoom tCharge tLeak tPlan crM' ∧ (∀ n', n ≤ n' → n' ≤ 40 → crM' v n' = crs nc ns hr kd rm ch lk pl n' j) ∧ (∀ n', n' < n → crM' v n' = crM v n') ∧ ∀ u, ¬ u = v → crM' u = crM u := by
  have hc := h.1.1
  have hh := h.2.2.2
  intro d
  induction d with
  | zero =>
    intro n f crM h1 h2
    obtain ⟨f, rfl⟩ : ∃ m, f = m + 1 := ⟨f - 1, by omega⟩
    have hn : n = 41 := by omega
    subst hn
    rw [f_X5_layCourses_34, if_pos (show (40 : Int32) < nI 41 by decide), nI_1]
    exact ⟨_, _, _, _, _, _, _, _, _, _, _, _, _, rfl, fun n' g1 g2 => by omega, fun _ _ => rfl, fun _ _ => rfl⟩
  | succ d ih =>
    intro n f crM h1 h2
    obtain ⟨f, rfl⟩ : ∃ m, f = m + 1 := ⟨f - 1, by omega⟩
    obtain ⟨a, b, m', c⟩ := trj_ok h n (by omega)
    obtain ⟨D, c', dm', sm', wm', is', m'', e1, e2, -⟩ := tnx_ok h.2.1 a (by omega) b c 0 0 0 0
    rw [f_X5_layCourses_34, if_neg (show ¬ (40 : Int32) < nI n from nI_nlt (a := 40) (by omega) (by omega)), ck_nI hv (by decide), ck_nI (show j < 5 by omega) (by decide), ck_nI (show n < 41 by omega) (by decide), ob1_s e1, ob6_p e2, nI_1, nI_clamp (show v < 2 ^ 31 by omega), nI_clamp (show n < 2 ^ 31 by omega), nI_clamp (show j < 2 ^ 31 by omega)]
    obtain ⟨a1, a2, a3, a4, a5, a6, a7, a8, a9, a10, a11, a12, crM', g1, g2, g3, g4⟩ := ih (n + 1) f (va_up crM v (upd (crM v) n ((trj nc ns kd rm lk pl (nI hr, 0, 0, 0, ch) n).2.2.2.2 j))) (by omega) (by omega)
    refine ⟨a1, a2, a3, a4, a5, a6, a7, a8, a9, a10, a11, a12, crM', g1, fun n' k1 k2 => ?_, fun n' k1 => ?_, fun u hu => ?_⟩
    · by_cases e : n' = n
      · subst e; rw [g3 n' (by omega), va_up_s, upd_s]; rfl
      · exact g2 n' (by omega) k2
    · rw [g3 n' (by omega), va_up_s, upd_n (by omega)]
    · rw [g4 u hu, va_up_n hu]
theorem p5_lay {nc ns hr : Nat} {kd rm ch lk pl mSt : Nat → Int32} (h : MR nc ns hr kd rm ch lk pl mSt) (st wa dn : Int32) {j : Nat} (hj : j < nc) (g : Nat → Bool) : ∀ (d v f : Nat) (tCells tSigns tHour tStops tWaste tDone tBridged : Int32) (tKind tRoom tCharge tLeak tPlan : Nat → Int32) (crM : Nat → Nat → Int32), v + d = 10 → d < f → ∃ a1 a2, f_X5_layCourses_2 (nI j) (nI (bsum g 10)) (nI nc) (nI ns) (nI hr) st wa dn kd rm ch lk pl f (nI v) tCells tSigns tHour tStops tWaste tDone tBridged tKind tRoom tCharge tLeak tPlan crM = some (a1, a2) ∧ (∀ u, v ≤ u → u < 10 → g u = true → ∀ n, n ≤ 40 → a2.2.2.2.2.2.2.2.2.2.2.2 u n = crs nc ns hr kd rm ch (upd lk j (nI u)) pl n j) ∧ ∀ u, u < v → a2.2.2.2.2.2.2.2.2.2.2.2 u = crM u := by
  have hc := h.1.1
  intro d
  induction d with
  | zero =>
    intro v f tCells tSigns tHour tStops tWaste tDone tBridged tKind tRoom tCharge tLeak tPlan crM h1 h2
    obtain ⟨f, rfl⟩ : ∃ m, f = m + 1 := ⟨f - 1, by omega⟩
    have hv : v = 10 := by omega
    subst hv
    rw [f_X5_layCourses_2, if_pos (show (9 : Int32) < nI 10 by decide)]
    exact ⟨_, _, rfl, fun u _ _ => by omega, fun _ _ => rfl⟩
  | succ d ih =>
    intro v f tCells tSigns tHour tStops tWaste tDone tBridged tKind tRoom tCharge tLeak tPlan crM h1 h2
    obtain ⟨f, rfl⟩ : ∃ m, f = m + 1 := ⟨f - 1, by omega⟩
    rw [f_X5_layCourses_2, if_neg (show ¬ (9 : Int32) < nI v from nI_nlt (a := 9) (by omega) (by omega))]
    have hb := bitg g (show v < 10 by omega)
    by_cases c : g v = true
    · rw [if_pos (hb.mpr c), ob12_s (p5_start ..), ck_nI (show j < 5 by omega) (by decide), nI_clamp (show j < 2 ^ 31 by omega)]
      have hM := MR_lk h hj (v := v) (by omega)
      have hM2 := MR_lk (MR_start h tKind tRoom tCharge tLeak tPlan (m' := mSt) (fun _ _ => rfl)) hj (v := v) (by omega)
      obtain ⟨b1, b2, b3, b4, b5, b6, b7, b8, b9, b10, b11, b12, crM1, g1, g2, -, g4⟩ := p5_lay_in hM2 hj (show v < 10 by omega) (f_X5_layCourses_2 (nI j) (nI (bsum g 10)) (nI nc) (nI ns) (nI hr) st wa dn kd rm ch lk pl f) (nI (bsum g 10)) (nI nc) (nI ns) (nI hr) st wa dn kd rm ch lk pl 41 0 1000 crM (by omega) (by omega)
      have g1' : f_X5_layCourses_34 (f_X5_layCourses_2 (nI j) (nI (bsum g 10)) (nI nc) (nI ns) (nI hr) st wa dn kd rm ch lk pl f) (nI j) (nI (bsum g 10)) (nI v) (nI nc) (nI ns) (nI hr) st wa dn kd rm ch lk pl (nI nc) (nI ns) (-4) (c5 kd tKind) (c5 rm tRoom) (upd (c5 lk tLeak) j (nI v)) (c16 pl tPlan) 1000 0 (nI hr) 0 0 0 (c5 ch tCharge) crM = f_X5_layCourses_2 (nI j) (nI (bsum g 10)) (nI nc) (nI ns) (nI hr) st wa dn kd rm ch lk pl f (nI (v + 1)) b1 b2 b3 b4 b5 b6 b7 b8 b9 b10 b11 b12 crM1 := g1
      rw [g1']
      obtain ⟨a1, a2, k1, k2, k3⟩ := ih (v + 1) f b1 b2 b3 b4 b5 b6 b7 b8 b9 b10 b11 b12 crM1 (by omega) (by omega)
      refine ⟨a1, a2, k1, fun u w1 w2 w3 n hn => ?_, fun u hu => ?_⟩
      · by_cases e : u = v
        · subst e
          rw [k3 u (by omega), g2 n (Nat.zero_le _) hn]
          exact crs_same hM2 hM (by omega) hj
        · exact k2 u (by omega) w2 w3 n hn
      · rw [k3 u (by omega), g4 u (by omega)]
    · rw [if_neg (fun q => c (hb.mp q)), nI_1]
      obtain ⟨a1, a2, k1, k2, k3⟩ := ih (v + 1) f tCells tSigns tHour tStops tWaste tDone tBridged tKind tRoom tCharge tLeak tPlan crM (by omega) (by omega)
      refine ⟨a1, a2, k1, fun u w1 w2 w3 n hn => ?_, fun u hu => k3 u (by omega)⟩
      by_cases e : u = v
      · subst e; exact absurd w3 c
      · exact k2 u (by omega) w2 w3 n hn
/-! the reference: the courses of those leaks, one behind another -/
theorem p6_ask46 {j many v : Nat} (hj : j < 5) (hm : many < 10) (K : Int32 → Int32 → Int32 → Int32 → Int32 → Int32 → Int32 → (Nat → Int32) → (Nat → Int32) → (Nat → Int32) → Option (Int32 × Int32 × Int32 × Int32 × Int32 × Int32 × (Nat → Int32) × (Nat → Int32) × (Nat → Int32))) (v2 br dm sm wm is : Int32) (mSt mNow chg : Nat → Int32) : ∀ (d n f : Nat) (byl : Nat → Int32), n + d = 41 → d < f → ∃ byl', f_X6_ask_46 K (nI j) v2 (nI many) (nI v) br dm sm wm is mSt mNow chg f (nI n) byl = K (nI (many + 1)) (nI (v + 1)) br dm sm wm is mNow chg byl' ∧ (∀ n', n ≤ n' → n' ≤ 40 → byl' (41 * many + n') = chg (5 * n' + j)) ∧ ∀ k, k < 41 * many + n → byl' k = byl k := by
  intro d
  induction d with
  | zero =>
    intro n f byl h1 h2
    obtain ⟨f, rfl⟩ : ∃ m, f = m + 1 := ⟨f - 1, by omega⟩
    have hn : n = 41 := by omega
    subst hn
    rw [f_X6_ask_46, if_pos (show (40 : Int32) < nI 41 by decide), nI_1, nI_1]
    exact ⟨byl, rfl, fun n' g1 g2 => by omega, fun _ _ => rfl⟩
  | succ d ih =>
    intro n f byl h1 h2
    obtain ⟨f, rfl⟩ : ∃ m, f = m + 1 := ⟨f - 1, by omega⟩
    obtain ⟨byl', e1, e2, e3⟩ := ih (n + 1) f (upd byl (41 * many + n) (chg (5 * n + j))) (by omega) (by omega)
    refine ⟨byl', ?_, fun n' g1 g2 => ?_, fun k hk => ?_⟩
    · rw [f_X6_ask_46, if_neg (show ¬ (40 : Int32) < nI n from nI_nlt (a := 40) (by omega) (by omega)), show (5 : Int32) = nI 5 from rfl, show (41 : Int32) = nI 41 from rfl, pk_mul, pk_mul, nI_add, nI_add, ck_nI (show 5 * n + j < 205 by omega) (by decide), ck_nI (show 41 * many + n < 410 by omega) (by decide), nI_clamp (show 5 * n + j < 2 ^ 31 by omega), nI_clamp (show 41 * many + n < 2 ^ 31 by omega), nI_1, e1]
    · by_cases e : n' = n
      · subst e; rw [e3 _ (by omega), upd_s]
      · exact e2 n' (by omega) g2
    · rw [e3 k (by omega), upd_n (by omega)]
theorem sumr_snoc (f : Nat → Nat) (d : Nat) : sumr f (d + 1) 0 = sumr f d 0 + f d := by
  rw [sumr_split f d 1 0, Nat.zero_add]
  rfl
theorem ask_build {nc ns hr : Nat} {kd rm ch lk pl mSt : Nat → Int32} (h : MR nc ns hr kd rm ch lk pl mSt) {sz j : Nat} {sh sc sv : Nat → Int32} (hS : SR nc sz sh sc sv mSt) (hj : j < nc) {g : Nat → Bool} (hg : ∀ v, v ≤ 9 → (g v = true ↔ lkG nc ns hr sz j kd rm ch lk pl sh sc sv v)) (v2 : Int32) : ∀ (d i f many : Nat) (p : Nat → Nat) (br dm sm wm is : Int32) (mNow chg byl : Nat → Int32), i + d = 10 → d < f → many ≤ i → (∀ a, a < many → p a < i ∧ g (p a) = true) → (∀ v, v < i → g v = true → ∃ a, a < many ∧ p a = v) → (∀ f : Nat → Nat, sumr (fun b => f (p b)) many 0 = sumr (fun w => if g w = true then f w else 0) i 0) → (∀ n, n ≤ 40 → ∀ a, a < many → byl (41 * a + n) = crs nc ns hr kd rm ch (upd lk j (nI (p a))) pl n j) → ∃ (many' : Nat) (p' : Nat → Nat) (br' dm' sm' wm' is' : Int32) (mNow' chg' byl' : Nat → Int32), f_X6_ask_22 (nI j) v2 mSt f (nI many) (nI i) br dm sm wm is mNow chg byl = f_X6_ask_101 v2 (nI many') br' dm' sm' wm' is' mSt mNow' chg' byl' 1000 (nI many') (-4) 0 ∧ many' ≤ 10 ∧ (∀ a, a < many' → p' a < 10 ∧ g (p' a) = true) ∧ (∀ v, v < 10 → g v = true → ∃ a, a < many' ∧ p' a = v) ∧ (∀ f : Nat → Nat, sumr (fun b => f (p' b)) many' 0 = sumr (fun w => if g w = true then f w else 0) 10 0) ∧ (∀ n, n ≤ 40 → ∀ a, a < many' → byl' (41 * a + n) = crs nc ns hr kd rm ch (upd lk j (nI (p' a))) pl n j) := by
  have hc := h.1.1
  intro d
  induction d with
  | zero =>
    intro i f many p br dm sm wm is mNow chg byl h1 h2 h3 h4 h5 h6 h7
    obtain ⟨f, rfl⟩ : ∃ m, f = m + 1 := ⟨f - 1, by omega⟩
    have hi : i = 10 := by omega
    subst hi
    rw [f_X6_ask_22, if_pos (show (9 : Int32) < nI 10 by decide)]
    exact ⟨many, p, _, _, _, _, _, _, _, byl, rfl, h3, h4, h5, h6, h7⟩
  | succ d ih =>
    intro i f many p br dm sm wm is mNow chg byl h1 h2 h3 h4 h5 h6 h7
    obtain ⟨f, rfl⟩ : ∃ m, f = m + 1 := ⟨f - 1, by omega⟩
    have hM := MR_lk h hj (v := i) (by omega)
    obtain ⟨a, a1, -, a3⟩ := seen_both hM hS
    obtain ⟨dm', sm', wm', is', m', chg', g2, g3⟩ := p6_so' (v1 := 4 * j + 3) (by omega) (v := nI i) (br := br) (dm := dm) (sm := sm) (wm := wm) (is := is) (mNow := mNow) (chg := chg) (fun _ _ => rfl) a3
    rw [f_X6_ask_22, if_neg (show ¬ (9 : Int32) < nI i from nI_nlt (a := 9) (by omega) (by omega)), show (4 * nI j + 3 : Int32) = nI (4 * j + 3) from p6_ix j 3, ob8_p g2]
    have hgi := hg i (by omega)
    rcases a1 with ⟨rfl, q⟩ | ⟨rfl, q⟩
    · have hgt : g i = true := hgi.mpr q
      rw [i10]
      obtain ⟨byl', e1, e2, e3⟩ := p6_ask46 (j := j) (many := many) (v := i) (by omega) (by omega) (f_X6_ask_22 (nI j) v2 mSt f) v2 (-4) dm' sm' wm' is' mSt m' chg' 41 0 1000 byl (by omega) (by omega)
      rw [show (0 : Int32) = nI 0 from rfl, e1]
      refine ih (i + 1) f (many + 1) (fun a => if a = many then i else p a) _ _ _ _ _ _ _ byl' (by omega) (by omega) (by omega) (fun a ha => ?_) (fun v hv hgv => ?_) (fun F => ?_) (fun n hn a ha => ?_)
      · skip
        by_cases e : a = many
        · rw [if_pos e]; exact ⟨by omega, hgt⟩
        · rw [if_neg e]; have := h4 a (by omega); exact ⟨by omega, this.2⟩
      · by_cases e : v = i
        · exact ⟨many, by omega, by rw [if_pos rfl, e]⟩
        · obtain ⟨a, w1, w2⟩ := h5 v (by omega) hgv
          exact ⟨a, by omega, by rw [if_neg (by omega)]; exact w2⟩
      · rw [sumr_snoc, sumr_snoc, if_pos hgt, if_pos rfl, ← h6 F]
        congr 1
        exact sumr_cg _ _ (fun w _ hw => by rw [if_neg (by omega)])
      · skip
        by_cases e : a = many
        · subst e
          rw [if_pos rfl, e2 n (Nat.zero_le _) hn]
          exact g3 n hn j hj
        · rw [if_neg e, e3 _ (by omega)]
          exact h7 n hn a (by omega)
    · have hgt : ¬ g i = true := fun w => q (hgi.mp w)
      rw [i00, nI_1]
      refine ih (i + 1) f many p _ _ _ _ _ _ _ byl (by omega) (by omega) (by omega) (fun a ha => ?_) (fun v hv hgv => ?_) (fun F => ?_) h7
      · have := h4 a ha; exact ⟨by omega, this.2⟩
      · by_cases e : v = i
        · subst e; exact absurd hgv hgt
        · exact h5 v (by omega) hgv
      · rw [sumr_snoc, if_neg hgt, Nat.add_zero]
        exact h6 F
theorem op_ask {nc ns hr : Nat} {kd rm ch lk pl mSt : Nat → Int32} (h : MR nc ns hr kd rm ch lk pl mSt) (st wa dn : Int32) {sz : Nat} {sh sc sv : Nat → Int32} (hS : SR nc sz sh sc sv mSt) (v1 v2 : Int32) (br dm sm wm is : Int32) (mNow : Nat → Int32) (tCells tSigns tHour tStops tWaste tDone tBridged : Int32) (tKind tRoom tCharge tLeak tPlan : Nat → Int32) (crM : Nat → Nat → Int32) (chg byl : Nat → Int32) : ∃ r o o', f_X5_ask v1 v2 (nI nc) (nI ns) (nI hr) st wa dn kd rm ch lk pl tCells tSigns tHour tStops tWaste tDone tBridged tKind tRoom tCharge tLeak tPlan (nI sz) sh sc sv crM = some (r, o) ∧ f_X6_ask v1 v2 br dm sm wm is mSt mNow chg byl = some (r, o') := by
  have hc := h.1.1
  have hA := h.2.2.1.1
  unfold f_X5_ask f_X6_ask
  by_cases c0 : In 0 ((nc : Int) - 1) v1
  · rw [ob1_s (p5_cell_t (by omega) c0), ob1_s (p6_unit_t hA.1 (by omega) c0), i10, i10]
    by_cases c1 : In 0 1 v2
    · rw [ob1_s (p5_half_t c1), ob1_s (p6_part_t c1), i10, i10]
      obtain ⟨j, hj, rfl⟩ := In_cell (by omega) c0
      obtain ⟨g, hg⟩ := lkG_ex nc ns hr sz j kd rm ch lk pl sh sc sv
      obtain ⟨o, e1⟩ := leaks_c h st wa dn hS hj hg 10 0 1000 tCells tSigns tHour tStops tWaste tDone tBridged tKind tRoom tCharge tLeak tPlan (by omega) (by omega)
      have e1' : f_X5_leaksAsSeen (nI j) (nI nc) (nI ns) (nI hr) st wa dn kd rm ch lk pl tCells tSigns tHour tStops tWaste tDone tBridged tKind tRoom tCharge tLeak tPlan (nI sz) sh sc sv = some (nI (bsum g 10), o) := e1
      rw [ob13_s e1']
      obtain ⟨a1, a2, k1, k2, -⟩ := p5_lay h st wa dn hj g 10 0 1000 o.1 o.2.1 o.2.2.1 o.2.2.2.1 o.2.2.2.2.1 o.2.2.2.2.2.1 o.2.2.2.2.2.2.1 o.2.2.2.2.2.2.2.1 o.2.2.2.2.2.2.2.2.1 o.2.2.2.2.2.2.2.2.2.1 o.2.2.2.2.2.2.2.2.2.2.1 o.2.2.2.2.2.2.2.2.2.2.2 crM (by omega) (by omega)
      have k1' : f_X5_layCourses (nI j) (nI (bsum g 10)) (nI nc) (nI ns) (nI hr) st wa dn kd rm ch lk pl o.1 o.2.1 o.2.2.1 o.2.2.2.1 o.2.2.2.2.1 o.2.2.2.2.2.1 o.2.2.2.2.2.2.1 o.2.2.2.2.2.2.2.1 o.2.2.2.2.2.2.2.2.1 o.2.2.2.2.2.2.2.2.2.1 o.2.2.2.2.2.2.2.2.2.2.1 o.2.2.2.2.2.2.2.2.2.2.2 crM = some (a1, a2) := k1
      obtain ⟨many, p, br', dm', sm', wm', is', mNow', chg', byl', w1, w2, w3, w4, w5, w6⟩ := ask_build h hS hj hg v2 10 0 1000 0 id br dm sm wm is mNow chg byl (by omega) (by omega) (by omega) (fun a ha => by omega) (fun v hv => by omega) (fun F => rfl) (fun n hn a ha => by omega)
      have w1' : f_X6_ask_22 (nI j) v2 mSt 1000 0 0 br dm sm wm is mNow chg byl = f_X6_ask_101 v2 (nI many) br' dm' sm' wm' is' mSt mNow' chg' byl' 1000 (nI many) (-4) 0 := w1
      have em : sumr (fun w => if g w = true then 1 else 0) 10 0 = many := by
        rw [← w5 (fun _ => 1)]
        have : ∀ d i, sumr (fun _ => 1) d i = d := fun d => by
          induction d with
          | zero => intro i; rfl
          | succ d ih => intro i; rw [sumr_s, ih]; omega
        exact this many 0
      rw [ob13_s k1', ob1_s (bitcg g), w1', em]
      have := ask_hours (g := g) (crM := a2.2.2.2.2.2.2.2.2.2.2.2) w2 w3 w4 w5 (fun n hn a ha => (w6 n hn a ha).trans (k2 (p a) (Nat.zero_le _) (w3 a ha).1 (w3 a ha).2 n hn).symm) v2 (nI nc) (nI ns) (nI hr) st wa dn kd rm ch lk pl a1 a2.1 a2.2.1 a2.2.2.1 a2.2.2.2.1 a2.2.2.2.2.1 a2.2.2.2.2.2.1 a2.2.2.2.2.2.2.1 a2.2.2.2.2.2.2.2.1 a2.2.2.2.2.2.2.2.2.1 a2.2.2.2.2.2.2.2.2.2.1 a2.2.2.2.2.2.2.2.2.2.2.1 (nI sz) sh sc sv br' dm' sm' wm' is' mSt mNow' chg' 41 0 1000 1000 (-4) (nI many) (by omega) (by omega) (by omega)
      exact this
    · rw [ob1_s (p5_half_f c1), ob1_s (p6_part_f c1), i00, i00]
      exact ⟨_, _, _, rfl, rfl⟩
  · rw [ob1_s (p5_cell_f (by omega) c0), ob1_s (p6_unit_f hA.1 (by omega) c0), i00, i00]
    exact ⟨_, _, _, rfl, rfl⟩
