/-! what was seen -/
def SR (nc sz : Nat) (sh sc sv m : Nat → Int32) : Prop := sz ≤ 6 ∧ m 42 = nI sz ∧ ∀ i, i < sz → m (43 + 3 * i) = sh i ∧ m (44 + 3 * i) = sc i ∧ m (45 + 3 * i) = sv i ∧ In 0 40 (sh i) ∧ In 0 ((nc : Int) - 1) (sc i) ∧ In 0 99 (sv i)
theorem SR_fr {nc sz : Nat} {sh sc sv m m' : Nat → Int32} (h : SR nc sz sh sc sv m) (hm : ∀ k, 42 ≤ k → k < 61 → m' k = m k) : SR nc sz sh sc sv m' := by
  obtain ⟨h1, h2, h3⟩ := h
  refine ⟨h1, by rw [hm 42 (by omega) (by omega)]; exact h2, fun i hi => ?_⟩
  rw [hm _ (by omega) (by omega), hm _ (by omega) (by omega), hm _ (by omega) (by omega)]
  exact h3 i hi
theorem SR_cg {nc sz : Nat} {sh sc sv m sh' sc' sv' m' : Nat → Int32} (h : SR nc sz sh sc sv m) (e1 : ∀ i, i < 6 → sh' i = sh i) (e2 : ∀ i, i < 6 → sc' i = sc i) (e3 : ∀ i, i < 6 → sv' i = sv i) (hm : ∀ k, 42 ≤ k → k < 61 → m' k = m k) : SR nc sz sh' sc' sv' m' := by
  have h := SR_fr h hm
  obtain ⟨h1, h2, h3⟩ := h
  refine ⟨h1, h2, fun i hi => ?_⟩
  rw [e1 i (by omega), e2 i (by omega), e3 i (by omega)]
  exact h3 i hi
theorem MR_fr {nc ns hr : Nat} {kd rm ch lk pl m m' : Nat → Int32} (h : MR nc ns hr kd rm ch lk pl m) (hm : ∀ k, k < 42 → m' k = m k) : MR nc ns hr kd rm ch lk pl m' := by
  obtain ⟨hW, hP, ⟨⟨a1, a2⟩, r2, r3, r4⟩, hh⟩ := h
  have := hP.1
  have := hW.1
  refine ⟨hW, hP, ⟨⟨by rw [hm 20 (by omega)]; exact a1, fun j hj => ?_⟩, by rw [hm 37 (by omega)]; exact r2, fun i hi => by rw [hm (21 + i) (by omega)]; exact r3 i hi, by rw [hm 38 (by omega)]; exact r4⟩, hh⟩
  rw [hm (4 * j) (by omega), hm (4 * j + 1) (by omega), hm (4 * j + 2) (by omega), hm (4 * j + 3) (by omega)]
  exact a2 j hj
theorem CReal_fr {st wa dn : Int32} {m m' : Nat → Int32} (h : CReal st wa dn m) (hm : ∀ k, k < 42 → m' k = m k) : CReal st wa dn m' := by
  obtain ⟨a, b, c, d⟩ := h
  exact ⟨by rw [hm 39 (by omega)]; exact a, by rw [hm 40 (by omega)]; exact b, by rw [hm 41 (by omega)]; exact c, d⟩
theorem ob4_s {A1 A2 A3 A4 B : Type} {x : Option (A1 × A2 × A3 × A4)} {a1 : A1} {a2 : A2} {a3 : A3} {a4 : A4} {k : A1 → A2 → A3 → A4 → Option B} (h : x = some (a1, a2, a3, a4)) : ob4 x k = k a1 a2 a3 a4 := by rw [h]; rfl
theorem op_see {nc sz : Nat} (hc : nc ≤ 5) {sh sc sv mSt : Nat → Int32} (hm : mSt 20 = nI nc) (hS : SR nc sz sh sc sv mSt) (v1 v2 v3 : Int32) : ∃ r sz' sh' sc' sv' mSt', f_X5_see v1 v2 v3 (nI nc) (nI sz) sh sc sv = some (r, nI sz', sh', sc', sv') ∧ f_X6_see v1 v2 v3 mSt = some (r, mSt') ∧ SR nc sz' sh' sc' sv' mSt' ∧ ∀ k, k < 42 ∨ 61 ≤ k → mSt' k = mSt k := by
  obtain ⟨h1, h2, h3⟩ := id hS
  unfold f_X5_see f_X6_see
  by_cases c1 : In 0 40 v1
  · rw [g2_t (K := 40) c1, ob1_s (p6_inv_t (lo := 0) (hi := 40) c1), i10]
    by_cases c2 : In 0 ((nc : Int) - 1) v2
    · rw [ob1_s (p5_cell_t (by omega) c2), ob1_s (p6_unit_t hm (by omega) c2), i10, i10]
      by_cases c3 : In 0 99 v3
      · rw [g4_t (K := 99) c3, ob1_s (p6_inv_t (lo := 0) (hi := 99) c3), i10, show (42 : Int32) = nI 42 from rfl, show (6 : Int32) = nI 6 from rfl]
        simp only [ck_nI (show 42 < 183 by decide) (show 183 < 2 ^ 31 by decide), nI_clamp (show 42 < 2 ^ 31 by decide), h2]
        by_cases c4 : sz < 6
        · unfold f_X2_append bd
          dsimp only
          rw [if_pos (nI_lt c4 (by decide)), if_neg (nI_ne_of (by omega) (by omega) (by omega)), show (6 : Int32) = nI 6 from rfl, if_neg (nI_ge c4 (by decide)), ck_nI (by omega) (by decide), ck_nI (by omega) (by decide), ck_nI (by omega) (by decide), nI_clamp (by omega), nI_1, show (43 : Int32) = nI 43 from rfl, show (3 : Int32) = nI 3 from rfl, pk_mul, nI_add, nI_1, show (2 : Int32) = nI 2 from rfl, nI_add, ck_nI (by omega) (by decide), ck_nI (by omega) (by decide), ck_nI (by omega) (by decide), nI_clamp (by omega), nI_clamp (by omega), nI_clamp (by omega), ob4_s rfl, upd_s, upd_n (show ¬ 42 = 43 + 3 * sz + 2 by omega), upd_n (show ¬ 42 = 43 + 3 * sz + 1 by omega), upd_n (show ¬ 42 = 43 + 3 * sz by omega), h2, nI_1]
          refine ⟨_, sz + 1, _, _, _, _, rfl, rfl, ⟨by omega, upd_s, fun i hi => ?_⟩, fun k hk => by rw [upd_n (by omega), upd_n (by omega), upd_n (by omega), upd_n (by omega)]⟩
          by_cases e : i = sz
          · subst e
            rw [upd_s, upd_s, upd_s, upd_n (by omega), upd_n (by omega), upd_n (by omega), upd_s, upd_n (by omega), upd_n (by omega), show 44 + 3 * i = 43 + 3 * i + 1 by omega, upd_s, upd_n (by omega), show 45 + 3 * i = 43 + 3 * i + 2 by omega, upd_s]
            exact ⟨rfl, rfl, rfl, c1, c2, c3⟩
          · rw [upd_n e, upd_n e, upd_n e]
            simp (discharger := omega) only [upd_n]
            exact h3 i (by omega)
        · have e : sz = 6 := by omega
          subst e
          rw [if_neg (show ¬ nI 6 < nI 6 by decide), if_pos rfl]
          exact ⟨_, 6, _, _, _, _, rfl, rfl, hS, fun _ _ => rfl⟩
      · rw [g4_f (K := 99) c3, ob1_s (p6_inv_f (lo := 0) (hi := 99) c3), i00]
        exact ⟨_, sz, _, _, _, _, rfl, rfl, hS, fun _ _ => rfl⟩
    · rw [ob1_s (p5_cell_f (by omega) c2), ob1_s (p6_unit_f hm (by omega) c2), i00, i00]
      exact ⟨_, sz, _, _, _, _, rfl, rfl, hS, fun _ _ => rfl⟩
  · rw [g2_f (K := 40) c1, ob1_s (p6_inv_f (lo := 0) (hi := 40) c1), i00]
    exact ⟨_, sz, _, _, _, _, rfl, rfl, hS, fun _ _ => rfl⟩
theorem op_forget {nc sz : Nat} {sh sc sv mSt : Nat → Int32} (hS : SR nc sz sh sc sv mSt) (v1 : Int32) : ∃ r sz' mSt', f_X5_forget v1 (nI sz) = some (r, nI sz') ∧ f_X6_forget v1 mSt = some (r, mSt') ∧ SR nc sz' sh sc sv mSt' ∧ ∀ k, ¬ k = 42 → mSt' k = mSt k := by
  obtain ⟨h1, h2, h3⟩ := id hS
  unfold f_X5_forget f_X6_forget
  rw [show (42 : Int32) = nI 42 from rfl, ck_nI (by decide) (by decide), nI_clamp (by decide), h2]
  by_cases c1 : In 0 (nI sz).toInt v1
  · rw [g4_t (K := nI sz) c1, ob1_s (p6_inw_t (lo := 0) c1), i10, ob2_s (p6_becomes (by decide) v1 mSt), h2]
    obtain ⟨n, n1, n2, rfl⟩ := In_nat c1
    rw [nI_toInt (by omega)] at n1
    refine ⟨_, n, _, rfl, rfl, ⟨by omega, upd_s, fun i hi => ?_⟩, fun k hk => upd_n hk⟩
    rw [upd_n (by omega), upd_n (by omega), upd_n (by omega)]
    exact h3 i (by omega)
  · rw [g4_f (K := nI sz) c1, ob1_s (p6_inw_f (lo := 0) c1), i00]
    exact ⟨_, sz, _, rfl, rfl, hS, fun _ _ => rfl⟩
/-! the tape -/
def TR (tl : Nat) (pB mT : Nat → Int32) : Prop := tl ≤ 160 ∧ ∀ i, i < tl → mT i = pB i ∧ In 0 127 (pB i)
theorem op_feed {tl : Nat} {pB mT : Nat → Int32} (hT : TR tl pB mT) (v1 : Int32) : ∃ r tl' pB' mT', f_X5_feed v1 (nI tl) pB = some (r, nI tl', pB') ∧ f_X6_feed v1 (nI tl) mT = some (r, nI tl', mT') ∧ TR tl' pB' mT' := by
  obtain ⟨h1, h2⟩ := id hT
  unfold f_X5_feed f_X6_feed
  by_cases c1 : In 0 127 v1
  · rw [g4_t (K := 127) c1, ob1_s (p6_inv_t (lo := 0) (hi := 127) c1), i10, show (160 : Int32) = nI 160 from rfl]
    by_cases c2 : tl < 160
    · rw [if_pos (nI_lt c2 (by decide)), if_neg (nI_ne_of (by omega) (by omega) (by omega)), ck_nI c2 (by decide), ck_nI c2 (by decide), nI_clamp (by omega), nI_1]
      refine ⟨_, tl + 1, _, _, rfl, rfl, by omega, fun i hi => ?_⟩
      by_cases e : i = tl
      · subst e; rw [upd_s, upd_s]; exact ⟨rfl, c1⟩
      · rw [upd_n e, upd_n e]; exact h2 i (by omega)
    · have e : tl = 160 := by omega
      subst e
      rw [if_neg (show ¬ nI 160 < nI 160 by decide), if_pos rfl]
      exact ⟨_, 160, _, _, rfl, rfl, hT⟩
  · rw [g4_f (K := 127) c1, ob1_s (p6_inv_f (lo := 0) (hi := 127) c1), i00]
    exact ⟨_, tl, _, _, rfl, rfl, hT⟩
theorem op_end {tl : Nat} {pB mT : Nat → Int32} (hT : TR tl pB mT) (v1 : Int32) : ∃ r tl', f_X5_end v1 (nI tl) = some (r, nI tl') ∧ f_X6_end v1 (nI tl) = some (r, nI tl') ∧ TR tl' pB mT := by
  obtain ⟨h1, h2⟩ := id hT
  unfold f_X5_end f_X6_end
  by_cases c1 : In 0 (nI tl).toInt v1
  · rw [g4_t (K := nI tl) c1, ob1_s (p6_inw_t (lo := 0) c1), i10]
    obtain ⟨n, n1, n2, rfl⟩ := In_nat c1
    rw [nI_toInt (by omega)] at n1
    exact ⟨_, n, rfl, rfl, by omega, fun i hi => h2 i (by omega)⟩
  · rw [g4_f (K := nI tl) c1, ob1_s (p6_inw_f (lo := 0) c1), i00]
    exact ⟨_, tl, rfl, rfl, hT⟩
/-! sheets -/
theorem g3'_t {α : Type} {v : Int32} {n : Nat} {a b : α} (h : In 0 ((n : Int) - 1) v) (hn : n < 2 ^ 31) : (if v < 0 then a else (if v < nI n then b else a)) = b := by
  rw [if_neg (fun q => by have := z_lt0.mp q; have := h.1; omega), if_pos (i_lt.mpr (by rw [nI_toInt hn]; have := h.2; omega))]
theorem g3'_f {α : Type} {v : Int32} {n : Nat} {a b : α} (h : ¬ In 0 ((n : Int) - 1) v) (hn : n < 2 ^ 31) : (if v < 0 then a else (if v < nI n then b else a)) = a := by
  by_cases c : v < 0
  · rw [if_pos c]
  · rw [if_neg c]
    have c' : ¬ v.toInt < 0 := fun q => c (z_lt0.mpr q)
    rw [if_neg (fun q => h ⟨by omega, by have := i_lt.mp q; rw [nI_toInt hn] at this; omega⟩)]
/-- a sheet of the class against the reference's numbers at k -/
def HR (k : Nat) (th la le : Int32) (pc mL mZ mC : Nat → Int32) : Prop := (th = 0 ∧ mL k = (-4)) ∨ (th = 1 ∧ mL k = la ∧ In 0 2 la ∧ mZ k = le ∧ In 0 40 le ∧ ∀ i, i < 40 → mC (40 * k + i) = pc i)
theorem HR_fr {k : Nat} {th la le : Int32} {pc mL mZ mC mL' mZ' mC' : Nat → Int32} (h : HR k th la le pc mL mZ mC) (e1 : mL' k = mL k) (e2 : mZ' k = mZ k) (e3 : ∀ i, i < 40 → mC' (40 * k + i) = mC (40 * k + i)) : HR k th la le pc mL' mZ' mC' := by
  rcases h with ⟨a, b⟩ | ⟨a, b, c, d, e, f⟩
  · exact Or.inl ⟨a, by rw [e1]; exact b⟩
  · exact Or.inr ⟨a, by rw [e1]; exact b, c, by rw [e2]; exact d, e, fun i hi => by rw [e3 i hi]; exact f i hi⟩
theorem p3_new_loop (th la le : Int32) : ∀ (d i n : Nat) (pc : Nat → Int32), i + d = 40 → d < n → ∃ pc', f_X3_becomesNew_17 th la le n (nI i) pc = some (th, la, le, pc') ∧ (∀ q, i ≤ q → q < 40 → pc' q = 0) ∧ ∀ q, q < i → pc' q = pc q := by
  intro d
  induction d with
  | zero =>
    intro i n pc h1 h2
    obtain ⟨n, rfl⟩ : ∃ m, n = m + 1 := ⟨n - 1, by omega⟩
    refine ⟨pc, ?_, fun q g1 g2 => by omega, fun q _ => rfl⟩
    rw [f_X3_becomesNew_17, show (40 : Int32) = nI 40 from rfl, if_pos (nI_le (by omega) (by omega))]
  | succ d ih =>
    intro i n pc h1 h2
    obtain ⟨n, rfl⟩ : ∃ m, n = m + 1 := ⟨n - 1, by omega⟩
    obtain ⟨pc', e1, e2, e3⟩ := ih (i + 1) n (upd pc i 0) (by omega) (by omega)
    refine ⟨pc', ?_, fun q g1 g2 => ?_, fun q g => ?_⟩
    · rw [f_X3_becomesNew_17, show (40 : Int32) = nI 40 from rfl, if_neg (nI_ge (by omega) (by omega)), ck_nI (by omega) (by decide), nI_clamp (by omega), nI_1, e1]
    · by_cases c : q = i
      · subst c; rw [e3 q (by omega), upd_s]
      · exact e2 q (by omega) g2
    · rw [e3 q (by omega), upd_n (by omega)]
theorem p6_sheet_loop {k : Nat} (hk : k < 4) (mL mZ : Nat → Int32) : ∀ (d i n : Nat) (mC : Nat → Int32), i + d = 40 → d < n → ∃ mC', f_X6_sheet_40 (nI k) mL mZ n (nI i) mC = some (1, mL, mZ, mC') ∧ (∀ q, i ≤ q → q < 40 → mC' (40 * k + q) = 0) ∧ ∀ q, (q < 40 * k + i ∨ 40 * k + 40 ≤ q) → mC' q = mC q := by
  intro d
  induction d with
  | zero =>
    intro i n mC h1 h2
    obtain ⟨n, rfl⟩ : ∃ m, n = m + 1 := ⟨n - 1, by omega⟩
    refine ⟨mC, ?_, fun q g1 g2 => by omega, fun q _ => rfl⟩
    rw [f_X6_sheet_40, show (40 : Int32) = nI 40 from rfl, if_pos (nI_le (by omega) (by omega))]
  | succ d ih =>
    intro i n mC h1 h2
    obtain ⟨n, rfl⟩ : ∃ m, n = m + 1 := ⟨n - 1, by omega⟩
    obtain ⟨mC', e1, e2, e3⟩ := ih (i + 1) n (upd mC (40 * k + i) 0) (by omega) (by omega)
    refine ⟨mC', ?_, fun q g1 g2 => ?_, fun q g => ?_⟩
    · rw [f_X6_sheet_40, show (40 : Int32) = nI 40 from rfl, if_neg (nI_ge (by omega) (by omega)), pk_mul, nI_add, ck_nI (by omega) (by decide), nI_clamp (by omega), nI_1, e1]
    · by_cases c : q = i
      · subst c; rw [e3 (40 * k + q) (by omega), upd_s]
      · exact e2 q (by omega) g2
    · rw [e3 q (by omega), upd_n (by omega)]
theorem p6_sheet_t {v1 v2 : Int32} (h1 : In 0 3 v1) (h2 : In 0 2 v2) : f_X6_isSheet v1 v2 = some 1 := by
  unfold f_X6_isSheet
  rw [ob1_s (p6_inv_t (lo := 0) (hi := 3) h1), i10, ob1_s (p6_inv_t (lo := 0) (hi := 2) h2), i10]
theorem p6_sheet_f {v1 v2 : Int32} (h : ¬ (In 0 3 v1 ∧ In 0 2 v2)) : f_X6_isSheet v1 v2 = some 0 := by
  unfold f_X6_isSheet
  by_cases h1 : In 0 3 v1
  · have h2 : ¬ In 0 2 v2 := fun q => h ⟨h1, q⟩
    rw [ob1_s (p6_inv_t (lo := 0) (hi := 3) h1), i10, ob1_s (p6_inv_f (lo := 0) (hi := 2) h2), i00]
  · rw [ob1_s (p6_inv_f (lo := 0) (hi := 3) h1), i00]
theorem i_nle {x y : Int32} : ¬ x ≤ y ↔ y.toInt < x.toInt := by rw [i_le]; omega
/-- where sheet k changes, the others stay -/
theorem op_sheet_f (v1 v2 v3 th la le : Int32) (pc mL mZ mC : Nat → Int32) (h : ¬ (In 0 3 v1 ∧ In 0 2 v2 ∧ In 0 40 v3)) : ∃ r, f_X5_sheet v1 v2 v3 th la le pc = some (r, th, la, le, pc) ∧ f_X6_sheet v1 v2 v3 mL mZ mC = some (r, mL, mZ, mC) := by
  unfold f_X5_sheet f_X6_sheet
  by_cases c1 : In 0 3 v1
  · rw [ob1_s (p5_sheet_t c1), i10]
    by_cases c2 : In 0 2 v2
    · rw [ob1_s (p5_lane_t c2), i10, ob1_s (p6_sheet_t c1 c2), i10]
      by_cases c3 : v3 ≤ 40
      · rw [if_pos c3, if_pos c3]
        have c4 : ¬ (0 : Int32) ≤ v3 := fun q => h ⟨c1, c2, i_le.mp q, i_le.mp c3⟩
        rw [if_neg c4, if_neg c4]
        exact ⟨_, rfl, rfl⟩
      · rw [if_neg c3, if_neg c3]
        exact ⟨_, rfl, rfl⟩
    · rw [ob1_s (p5_lane_f c2), i00, ob1_s (p6_sheet_f (fun q => c2 q.2)), i00]
      exact ⟨_, rfl, rfl⟩
  · rw [ob1_s (p5_sheet_f c1), i00, ob1_s (p6_sheet_f (fun q => c1 q.1)), i00]
    exact ⟨_, rfl, rfl⟩
theorem op_sheet_t {k : Nat} (hk : k < 4) {v2 v3 : Int32} (h2 : In 0 2 v2) (h3 : In 0 40 v3) (th la le : Int32) (pc mL mZ mC : Nat → Int32) : ∃ th' la' le' pc' mL' mZ' mC', f_X5_sheet (nI k) v2 v3 th la le pc = some (1, th', la', le', pc') ∧ f_X6_sheet (nI k) v2 v3 mL mZ mC = some (1, mL', mZ', mC') ∧ HR k th' la' le' pc' mL' mZ' mC' ∧ ∀ q, ¬ q = k → mL' q = mL q ∧ mZ' q = mZ q ∧ ∀ i, i < 40 → mC' (40 * q + i) = mC (40 * q + i) := by
  have h1 : In 0 3 (nI k) := (In_nI (by omega)).mpr (by omega)
  obtain ⟨pc', e1, e2, -⟩ := p3_new_loop 1 v2 v3 40 0 1000 pc (by omega) (by omega)
  obtain ⟨mC', g1, g2, g3⟩ := p6_sheet_loop hk (upd mL k v2) (upd mZ k v3) 40 0 1000 mC (by omega) (by omega)
  have q1 : v3 ≤ 40 := i_le.mpr h3.2
  have q2 : (0 : Int32) ≤ v3 := i_le.mpr h3.1
  unfold f_X5_sheet f_X6_sheet
  rw [ob1_s (p5_sheet_t h1), i10, ob1_s (p5_lane_t h2), i10, ob1_s (p6_sheet_t h1 h2), i10, if_pos q1, if_pos q2, if_pos q1, if_pos q2, ck_nI hk (by decide), ck_nI hk (by decide), ck_nI hk (by decide), nI_clamp (by omega)]
  unfold f_X3_becomesNew
  refine ⟨1, v2, v3, pc', _, _, mC', by rw [show (0 : Int32) = nI 0 from rfl, ob4_s e1], g1, Or.inr ⟨rfl, upd_s, h2, upd_s, h3, fun i hi => by rw [g2 i (Nat.zero_le _) hi, e2 i (Nat.zero_le _) hi]⟩, fun q hq => ⟨upd_n hq, upd_n hq, fun i hi => g3 _ (by omega)⟩⟩
theorem op_lay_f (v1 v2 v3 th la le : Int32) (pc mL mZ mC : Nat → Int32) (h : ¬ In 0 3 v1) : f_X5_lay v1 v2 v3 th la le pc = some ((-1), pc) ∧ f_X6_lay v1 v2 v3 mL mZ mC = some ((-1), mC) := by
  unfold f_X5_lay f_X6_lay
  rw [ob1_s (p5_sheet_f h), i00, ob1_s (p6_sheet_f (fun q => h q.1)), i00]
  exact ⟨rfl, rfl⟩
theorem op_lay_t {k : Nat} (hk : k < 4) (v2 v3 : Int32) {th la le : Int32} {pc mL mZ mC : Nat → Int32} (hH : HR k th la le pc mL mZ mC) : ∃ r pc' mC', f_X5_lay (nI k) v2 v3 th la le pc = some (r, pc') ∧ f_X6_lay (nI k) v2 v3 mL mZ mC = some (r, mC') ∧ HR k th la le pc' mL mZ mC' ∧ ∀ q, ¬ q = k → ∀ i, i < 40 → mC' (40 * q + i) = mC (40 * q + i) := by
  have h1 : In 0 3 (nI k) := (In_nI (by omega)).mpr (by omega)
  unfold f_X5_lay f_X6_lay
  rw [ob1_s (p5_sheet_t h1), i10, ob1_s (p6_sheet_t h1 (by unfold In; decide)), i10, ck_nI hk (by decide), ck_nI hk (by decide), nI_clamp (by omega)]
  rcases id hH with ⟨rfl, b⟩ | ⟨rfl, b, c, d, e, f⟩
  · rw [i00, b, if_pos rfl]
    exact ⟨_, _, _, rfl, rfl, hH, fun _ _ _ _ => rfl⟩
  · have z4 : (-4 : Int32).toInt = -4 := rfl
    obtain ⟨c1, c2⟩ := c
    have hn4 : ¬ la = (-4) := fun q => by rw [q] at c1; omega
    rw [i10, b, if_neg hn4, ck_nI hk (by decide), d]
    obtain ⟨n, n1, n2, rfl⟩ := In_nat e
    by_cases c3 : In 0 ((n : Int) - 1) v2
    · rw [g3'_t c3 (by omega), ob1_s (p6_inw_t (lo := 0) (by rw [nI_m1 (by omega)]; exact c3)), i10, ck_nI hk (by decide)]
      obtain ⟨i, i1, i2, rfl⟩ := In_nat c3
      unfold f_X3_lowestBits
      rw [show (40 : Int32) = nI 40 from rfl, pk_mul, nI_add]
      simp only [ck_nI hk (show 4 < 2 ^ 31 by decide), ck_nI (show i < 40 by omega) (show 40 < 2 ^ 31 by decide), ck_nI (show 40 * k + i < 160 by omega) (show 160 < 2 ^ 31 by decide), nI_clamp (show i < 2 ^ 31 by omega), nI_clamp (show 40 * k + i < 2 ^ 31 by omega)]
      have key : ∀ v : Int32, HR k 1 la (nI n) (upd pc i v) mL mZ (upd mC (40 * k + i) v) ∧ ∀ q, ¬ q = k → ∀ w, w < 40 → upd mC (40 * k + i) v (40 * q + w) = mC (40 * q + w) := by
        intro v
        refine ⟨Or.inr ⟨rfl, b, ⟨c1, c2⟩, d, e, fun w hw => ?_⟩, fun q hq w hw => upd_n (by omega)⟩
        by_cases q : w = i
        · subst q; rw [upd_s, upd_s]
        · rw [upd_n q, upd_n (by omega)]; exact f w hw
      by_cases l0 : la = 0
      · simp only [if_pos l0, ob1]
        exact ⟨_, _, _, rfl, rfl, key _⟩
      · simp only [if_neg l0]
        by_cases l1 : la = 1
        · simp only [if_pos l1, ob1]
          exact ⟨_, _, _, rfl, rfl, key _⟩
        · simp only [if_neg l1, ob1]
          exact ⟨_, _, _, rfl, rfl, key _⟩
    · rw [g3'_f c3 (by omega), ob1_s (p6_inw_f (lo := 0) (by rw [nI_m1 (by omega)]; exact c3)), i00]
      exact ⟨_, _, _, rfl, rfl, hH, fun _ _ _ _ => rfl⟩
theorem p1_ssum_loop {ns : Nat} (hs : ns ≤ 16) {pl : Nat → Int32} : ∀ (d i n : Nat) (acc : Int32), i + d = ns → d < n → ∃ r, f_X1_signsSummed_4 (nI ns) pl n acc (nI i) = some r ∧ ∀ (mT br dm sm wm : Int32) (mSt mNow mK mL mZ : Nat → Int32) (n' : Nat), mSt 37 = nI ns → (∀ i, i < ns → pl i = mSt (21 + i)) → d < n' → ∀ v : Int32, f_X6_count_8 v mT br dm sm wm mSt mNow mK mL mZ n' acc (nI i) = f_X6_count_8 v mT br dm sm wm mSt mNow mK mL mZ (n' - d) r (nI ns) := by
  intro d
  induction d with
  | zero =>
    intro i n acc h1 h2
    obtain ⟨n, rfl⟩ : ∃ m, n = m + 1 := ⟨n - 1, by omega⟩
    refine ⟨acc, by rw [f_X1_signsSummed_4, if_pos (nI_le (by omega) (by omega))], fun _ _ _ _ _ _ _ _ _ _ n' _ _ _ _ => ?_⟩
    rw [show i = ns by omega, Nat.sub_zero]
  | succ d ih =>
    intro i n acc h1 h2
    obtain ⟨n, rfl⟩ : ∃ m, n = m + 1 := ⟨n - 1, by omega⟩
    obtain ⟨r, e1, e2⟩ := ih (i + 1) n (acc + pl i) (by omega) (by omega)
    refine ⟨r, ?_, fun mT br dm sm wm mSt mNow mK mL mZ n' g1 g2 g3 v => ?_⟩
    · rw [f_X1_signsSummed_4, if_neg (nI_ge (by omega) (by omega)), ck_nI (by omega) (by decide), nI_clamp (by omega), nI_1]
      exact e1
    · obtain ⟨n', rfl⟩ : ∃ m, n' = m + 1 := ⟨n' - 1, by omega⟩
      rw [f_X6_count_8, show (37 : Int32) = nI 37 from rfl, ck_nI (by decide) (by decide), nI_clamp (by decide), g1, if_neg (nI_ge (by omega) (by omega)), show (21 : Int32) = nI 21 from rfl, nI_add, ck_nI (by omega) (by decide), nI_clamp (by omega), nI_1, ← g2 i (by omega), show n' + 1 - (d + 1) = n' - d by omega]
      exact e2 mT br dm sm wm mSt mNow mK mL mZ n' g1 g2 (by omega) v
theorem p6_flagv {v : Int32} (h : v = 0 ∨ v = 1) : f_X6_flag v = some v := by
  rcases h with rfl | rfl
  · exact p6_flag false
  · exact p6_flag true
theorem op_count {nc ns hr : Nat} {kd rm ch lk pl mSt : Nat → Int32} (h : MR nc ns hr kd rm ch lk pl mSt) {sz : Nat} {sh sc sv : Nat → Int32} (hS : SR nc sz sh sc sv mSt) {tl : Nat} {la le th i0 j0 : Int32} {pc mL mZ mC mK : Nat → Int32} (hH : HR 0 th la le pc mL mZ mC) (hi : i0 = mK 0 ∧ (i0 = 0 ∨ i0 = 1)) (hj : j0 = mK 1 ∧ (j0 = 0 ∨ j0 = 1)) (v1 br dm sm wm : Int32) (mNow : Nat → Int32) : ∃ r o', f_X5_count v1 (nI nc) (nI ns) rm pl th le (nI tl) i0 j0 (nI sz) = some r ∧ f_X6_count v1 (nI tl) br dm sm wm mSt mNow mK mL mZ = some (r, o') := by
  have hs := h.2.1.1
  obtain ⟨m1, e1, e2⟩ := p6_starts br dm sm wm mSt mNow
  have hA : RA nc kd rm ch lk m1 := (MR_st h e2).2.2.1.1
  obtain ⟨r, s1, s2⟩ := p1_ssum_loop hs (pl := pl) ns 0 1000 0 (by omega) (by omega)
  obtain ⟨q, q1, q2⟩ := rsum_rel h.1.1 hA
  unfold f_X5_count f_X6_count f_X5_count_65 f_X1_signsSummed
  have s2 := s2 (nI tl) (-4) 0 0 0 mSt m1 mK mL mZ 1000 h.2.2.1.2.1 h.2.2.1.2.2.1 (by omega) v1
  rw [show nI 0 = (0 : Int32) from rfl] at s1 s2
  rw [ob5_s e1, s2, show 1000 - ns = (999 - ns) + 1 by omega, f_X6_count_8, show (37 : Int32) = nI 37 from rfl, ck_nI (by decide) (by decide), nI_clamp (by decide), h.2.2.1.2.1, if_pos (nI_le (Nat.le_refl _) (by omega)), ob1_s q1, ob1_s q2, ob1_s s1, show (42 : Int32) = nI 42 from rfl, ck_nI (by decide) (by decide), nI_clamp (by decide), hS.2.1]
  by_cases k0 : v1 = 0
  · rw [if_pos k0, if_pos k0]; exact ⟨_, _, rfl, rfl⟩
  rw [if_neg k0, if_neg k0]
  by_cases k1 : v1 = 1
  · rw [if_pos k1, if_pos k1]
    have w1 : f_X6_flag (mK (0 : Int32).toNatClampNeg) = some i0 := by rw [show (0 : Int32).toNatClampNeg = 0 from rfl, ← hi.1]; exact p6_flagv hi.2
    have w2 : f_X6_flag (mK (1 : Int32).toNatClampNeg) = some j0 := by rw [show (1 : Int32).toNatClampNeg = 1 from rfl, ← hj.1]; exact p6_flagv hj.2
    rw [ob1_s w1, ob1_s w2]
    rcases hi.2 with rfl | rfl
    · rcases hj.2 with rfl | rfl
      · exact ⟨_, _, rfl, rfl⟩
      · exact ⟨_, _, rfl, rfl⟩
    · rcases hj.2 with rfl | rfl
      · exact ⟨_, _, rfl, rfl⟩
      · exact ⟨_, _, rfl, rfl⟩
  rw [if_neg k1, if_neg k1]
  by_cases k2 : v1 = 2
  · rw [if_pos k2, if_pos k2]; exact ⟨_, _, rfl, rfl⟩
  rw [if_neg k2, if_neg k2]
  by_cases k3 : v1 = 3
  · rw [if_pos k3, if_pos k3, show (0 : Int32).toNatClampNeg = 0 from rfl]
    rcases hH with ⟨rfl, b⟩ | ⟨rfl, b, c, d, e, f⟩
    · rw [i00, b, if_pos rfl]; exact ⟨_, _, rfl, rfl⟩
    · have z4 : (-4 : Int32).toInt = -4 := rfl
      have hn4 : ¬ la = (-4) := fun q => by have := c.1; rw [q] at this; omega
      rw [i10, b, if_neg hn4, d]; exact ⟨_, _, rfl, rfl⟩
  rw [if_neg k3, if_neg k3]
  by_cases k4 : v1 = 4
  · rw [if_pos k4, if_pos k4]; exact ⟨_, _, rfl, rfl⟩
  rw [if_neg k4, if_neg k4]
  by_cases k5 : v1 = 5
  · rw [if_pos k5, if_pos k5]; exact ⟨_, _, rfl, rfl⟩
  rw [if_neg k5, if_neg k5]; exact ⟨_, _, rfl, rfl⟩
/-! images -/
theorem p6_copies_loop {a b : Nat} (ha : a + 61 ≤ 183) (hb : b + 61 ≤ 183) (hab : a + 61 ≤ b ∨ b + 61 ≤ a) : ∀ (d i n : Nat) (m : Nat → Int32), i + d = 61 → d < n → ∃ m', f_X6_copies_2 (nI a) (nI b) n (nI i) m = some m' ∧ (∀ k, i ≤ k → k < 61 → m' (a + k) = m (b + k)) ∧ ∀ k, (k < a + i ∨ a + 61 ≤ k) → m' k = m k := by
  intro d
  induction d with
  | zero =>
    intro i n m h1 h2
    obtain ⟨n, rfl⟩ : ∃ m, n = m + 1 := ⟨n - 1, by omega⟩
    refine ⟨m, ?_, fun k g1 g2 => by omega, fun k _ => rfl⟩
    rw [f_X6_copies_2, show (61 : Int32) = nI 61 from rfl, if_pos (nI_le (by omega) (by omega))]
  | succ d ih =>
    intro i n m h1 h2
    obtain ⟨n, rfl⟩ : ∃ m, n = m + 1 := ⟨n - 1, by omega⟩
    obtain ⟨m', e1, e2, e3⟩ := ih (i + 1) n (upd m (a + i) (m (b + i))) (by omega) (by omega)
    refine ⟨m', ?_, fun k g1 g2 => ?_, fun k g => ?_⟩
    · rw [f_X6_copies_2, show (61 : Int32) = nI 61 from rfl, if_neg (nI_ge (by omega) (by omega)), nI_add, nI_add, ck_nI (by omega) (by decide), ck_nI (by omega) (by decide), nI_clamp (by omega), nI_clamp (by omega), nI_1, e1]
    · by_cases c : k = i
      · subst c; rw [e3 (a + k) (by omega), upd_s]
      · rw [e2 k (by omega) g2, upd_n (by omega)]
    · rw [e3 k (by omega), upd_n (by omega)]
theorem p6_copies {a b : Nat} (ha : a + 61 ≤ 183) (hb : b + 61 ≤ 183) (hab : a + 61 ≤ b ∨ b + 61 ≤ a) (m : Nat → Int32) : ∃ m', f_X6_copies (nI a) (nI b) m = some m' ∧ (∀ k, k < 61 → m' (a + k) = m (b + k)) ∧ ∀ k, (k < a ∨ a + 61 ≤ k) → m' k = m k := by
  unfold f_X6_copies
  obtain ⟨m', e1, e2, e3⟩ := p6_copies_loop ha hb hab 61 0 1000 m (by omega) (by omega)
  exact ⟨m', e1, fun k hk => e2 k (Nat.zero_le _) hk, fun k hk => e3 k (by omega)⟩
/-- all that is kept: a row, what was seen, against the numbers from a on -/
def KR (a nc ns hr sz : Nat) (st wa dn : Int32) (kd rm ch lk pl sh sc sv m : Nat → Int32) : Prop := MR nc ns hr kd rm ch lk pl (fun k => m (a + k)) ∧ CReal st wa dn (fun k => m (a + k)) ∧ SR nc sz sh sc sv (fun k => m (a + k))
theorem KR_mv {a b nc ns hr sz : Nat} {st wa dn : Int32} {kd rm ch lk pl sh sc sv m m' : Nat → Int32} (h : KR a nc ns hr sz st wa dn kd rm ch lk pl sh sc sv m) (hm : ∀ k, k < 61 → m' (b + k) = m (a + k)) : KR b nc ns hr sz st wa dn kd rm ch lk pl sh sc sv m' := ⟨MR_st h.1 hm, CReal_cg h.2.1 hm, SR_fr h.2.2 (fun k _ hk => hm k hk)⟩
theorem KR_cp {a nc ns hr sz : Nat} {st wa dn : Int32} {kd rm ch lk pl sh sc sv m : Nat → Int32} (h : KR a nc ns hr sz st wa dn kd rm ch lk pl sh sc sv m) (k1 k2 k3 k4 k5 s1 s2 s3 : Nat → Int32) : KR a nc ns hr sz st wa dn (c5 kd k1) (c5 rm k2) (c5 ch k3) (c5 lk k4) (c16 pl k5) (c6 sh s1) (c6 sc s2) (c6 sv s3) m := ⟨MR_start h.1 _ _ _ _ _ (fun _ _ => rfl), h.2.1, SR_cg h.2.2 (fun i hi => c6_i _ _ hi) (fun i hi => c6_i _ _ hi) (fun i hi => c6_i _ _ hi) (fun _ _ _ => rfl)⟩
theorem keep_bad {v1 : Int32} (hv : ¬ In 0 1 v1) (it w1 w2 w3 w4 w5 w6 : Int32) (w7 w8 w9 w10 w11 : Nat → Int32) (n1 n2 n3 n4 n5 n6 : Int32) (n7 n8 n9 n10 n11 : Nat → Int32) (z1 : Int32) (z2 z3 z4 : Nat → Int32) (s1 : Int32) (s2 s3 s4 mSt mK : Nat → Int32) : f_X5_keep v1 it w1 w2 w3 w4 w5 w6 w7 w8 w9 w10 w11 n1 n2 n3 n4 n5 n6 n7 n8 n9 n10 n11 z1 z2 z3 z4 s1 s2 s3 s4 = some ((-1), it, w1, w2, w3, w4, w5, w6, w7, w8, w9, w10, w11, z1, z2, z3, z4) ∧ f_X6_keep v1 mSt mK = some ((-1), mSt, mK) := by
  unfold f_X5_keep f_X6_keep
  rw [show (2 : Int32) = nI 2 from rfl, g3'_f (n := 2) hv (by decide), ob1_s (p6_inv_f (lo := 0) (hi := 1) hv), i00]
  exact ⟨rfl, rfl⟩
theorem ob11_s {A1 A2 A3 A4 A5 A6 A7 A8 A9 A10 A11 B : Type} {a1 : A1} {a2 : A2} {a3 : A3} {a4 : A4} {a5 : A5} {a6 : A6} {a7 : A7} {a8 : A8} {a9 : A9} {a10 : A10} {a11 : A11} {x : Option (A1 × A2 × A3 × A4 × A5 × A6 × A7 × A8 × A9 × A10 × A11)} {k : A1 → A2 → A3 → A4 → A5 → A6 → A7 → A8 → A9 → A10 → A11 → Option B} (h : x = some (a1, a2, a3, a4, a5, a6, a7, a8, a9, a10, a11)) : ob11 x k = k a1 a2 a3 a4 a5 a6 a7 a8 a9 a10 a11 := by rw [h]; rfl
theorem op_keep {nc ns hr sz : Nat} {st wa dn : Int32} {kd rm ch lk pl sh sc sv mSt mK : Nat → Int32} (h : KR 0 nc ns hr sz st wa dn kd rm ch lk pl sh sc sv mSt) {q : Nat} (hq : q < 2) {it : Int32} (hi : it = mK q ∧ (it = 0 ∨ it = 1)) (w1 w2 w3 w4 w5 w6 : Int32) (w7 w8 w9 w10 w11 : Nat → Int32) (z1 : Int32) (z2 z3 z4 : Nat → Int32) : ∃ r kd' rm' ch' lk' pl' sh' sc' sv' mSt' mK', f_X5_keep (nI q) it w1 w2 w3 w4 w5 w6 w7 w8 w9 w10 w11 (nI nc) (nI ns) (nI hr) st wa dn kd rm ch lk pl z1 z2 z3 z4 (nI sz) sh sc sv = some (r, 1, nI nc, nI ns, nI hr, st, wa, dn, kd', rm', ch', lk', pl', nI sz, sh', sc', sv') ∧ f_X6_keep (nI q) mSt mK = some (r, mSt', mK') ∧ KR (61 * (q + 1)) nc ns hr sz st wa dn kd' rm' ch' lk' pl' sh' sc' sv' mSt' ∧ mK' q = 1 ∧ (∀ k, ¬ k = q → mK' k = mK k) ∧ ∀ k, (k < 61 * (q + 1) ∨ 61 * (q + 1) + 61 ≤ k) → mSt' k = mSt k := by
  have hv : In 0 1 (nI q) := (In_nI (by omega)).mpr (by omega)
  obtain ⟨m', e1, e2, e3⟩ := p6_copies (a := 61 * (q + 1)) (b := 0) (by omega) (by omega) (by omega) mSt
  have hf : f_X6_flag (mK q) = some it := by rw [← hi.1]; exact p6_flagv hi.2
  unfold f_X5_keep f_X6_keep f_X5_keep_30
  rw [show (2 : Int32) = nI 2 from rfl, g3'_t (n := 2) hv (by decide), ob1_s (p6_inv_t (lo := 0) (hi := 1) hv), i10, ck_nI hq (by decide), ck_nI hq (by decide), nI_clamp (by omega), ob1_s hf, ck_nI hq (by decide), nI_1, show (61 : Int32) = nI 61 from rfl, pk_mul, show (0 : Int32) = nI 0 from rfl, ob1_s e1]
  have key := KR_mv (b := 61 * (q + 1)) (m' := m') h e2
  rcases hi.2 with rfl | rfl
  · exact ⟨_, _, _, _, _, _, _, _, _, _, _, rfl, rfl, KR_cp key w7 w8 w9 w10 w11 z2 z3 z4, upd_s, fun k hk => upd_n hk, e3⟩
  · exact ⟨_, _, _, _, _, _, _, _, _, _, _, rfl, rfl, KR_cp key w7 w8 w9 w10 w11 z2 z3 z4, upd_s, fun k hk => upd_n hk, e3⟩
theorem back_bad {v1 : Int32} (hv : ¬ In 0 1 v1) (it : Int32) (n1 n2 n3 n4 n5 n6 : Int32) (n7 n8 n9 n10 n11 : Nat → Int32) (w1 w2 w3 w4 w5 w6 : Int32) (w7 w8 w9 w10 w11 : Nat → Int32) (s1 : Int32) (s2 s3 s4 : Nat → Int32) (z1 : Int32) (z2 z3 z4 mSt mK : Nat → Int32) : f_X5_back v1 it n1 n2 n3 n4 n5 n6 n7 n8 n9 n10 n11 w1 w2 w3 w4 w5 w6 w7 w8 w9 w10 w11 s1 s2 s3 s4 z1 z2 z3 z4 = some ((-1), n1, n2, n3, n4, n5, n6, n7, n8, n9, n10, n11, s1, s2, s3, s4) ∧ f_X6_back v1 mSt mK = some ((-1), mSt) := by
  unfold f_X5_back f_X6_back
  rw [show (2 : Int32) = nI 2 from rfl, g3'_f (n := 2) hv (by decide), ob1_s (p6_inv_f (lo := 0) (hi := 1) hv), i00]
  exact ⟨rfl, rfl⟩
theorem op_back0 {q : Nat} (hq : q < 2) {mK : Nat → Int32} (hi : mK q = 0) (n1 n2 n3 n4 n5 n6 : Int32) (n7 n8 n9 n10 n11 : Nat → Int32) (w1 w2 w3 w4 w5 w6 : Int32) (w7 w8 w9 w10 w11 : Nat → Int32) (s1 : Int32) (s2 s3 s4 : Nat → Int32) (z1 : Int32) (z2 z3 z4 mSt : Nat → Int32) : f_X5_back (nI q) 0 n1 n2 n3 n4 n5 n6 n7 n8 n9 n10 n11 w1 w2 w3 w4 w5 w6 w7 w8 w9 w10 w11 s1 s2 s3 s4 z1 z2 z3 z4 = some ((-2), n1, n2, n3, n4, n5, n6, n7, n8, n9, n10, n11, s1, s2, s3, s4) ∧ f_X6_back (nI q) mSt mK = some ((-2), mSt) := by
  have hv : In 0 1 (nI q) := (In_nI (by omega)).mpr (by omega)
  unfold f_X5_back f_X6_back
  rw [show (2 : Int32) = nI 2 from rfl, g3'_t (n := 2) hv (by decide), ob1_s (p6_inv_t (lo := 0) (hi := 1) hv), i10, ck_nI hq (by decide), ck_nI hq (by decide), nI_clamp (by omega), hi, i00, i00]
  exact ⟨rfl, rfl⟩
theorem op_back1 {nc ns hr sz : Nat} {st wa dn : Int32} {kd rm ch lk pl sh sc sv mSt mK : Nat → Int32} {q : Nat} (hq : q < 2) (h : KR (61 * (q + 1)) nc ns hr sz st wa dn kd rm ch lk pl sh sc sv mSt) (hi : mK q = 1) (n1 n2 n3 n4 n5 n6 : Int32) (n7 n8 n9 n10 n11 : Nat → Int32) (s1 : Int32) (s2 s3 s4 : Nat → Int32) : ∃ kd' rm' ch' lk' pl' sh' sc' sv' mSt', f_X5_back (nI q) 1 n1 n2 n3 n4 n5 n6 n7 n8 n9 n10 n11 (nI nc) (nI ns) (nI hr) st wa dn kd rm ch lk pl s1 s2 s3 s4 (nI sz) sh sc sv = some (nI hr, nI nc, nI ns, nI hr, st, wa, dn, kd', rm', ch', lk', pl', nI sz, sh', sc', sv') ∧ f_X6_back (nI q) mSt mK = some (nI hr, mSt') ∧ KR 0 nc ns hr sz st wa dn kd' rm' ch' lk' pl' sh' sc' sv' mSt' ∧ ∀ k, 61 ≤ k → mSt' k = mSt k := by
  have hv : In 0 1 (nI q) := (In_nI (by omega)).mpr (by omega)
  obtain ⟨m', e1, e2, e3⟩ := p6_copies (a := 0) (b := 61 * (q + 1)) (by omega) (by omega) (by omega) mSt
  have key := KR_mv (b := 0) (m' := m') h e2
  have e4 : m' 38 = nI hr := key.1.2.2.1.2.2.2
  unfold f_X5_back f_X6_back
  rw [show (2 : Int32) = nI 2 from rfl, g3'_t (n := 2) hv (by decide), ob1_s (p6_inv_t (lo := 0) (hi := 1) hv), i10, ck_nI hq (by decide), ck_nI hq (by decide), nI_clamp (by omega), hi, i10, i10, nI_1, show (61 : Int32) = nI 61 from rfl, pk_mul, show (0 : Int32) = nI 0 from rfl, ob1_s e1, show (38 : Int32) = nI 38 from rfl, ck_nI (by decide) (by decide), nI_clamp (by decide), e4]
  exact ⟨_, _, _, _, _, _, _, _, _, rfl, rfl, KR_cp key n7 n8 n9 n10 n11 s2 s3 s4, fun k hk => e3 k (by omega)⟩
