theorem ob67 {A1 A2 A3 A4 A5 A6 V B : Type} (X : Option (A1 × A2 × A3 × A4 × A5 × A6)) (v : V) (k : V → A1 → A2 → A3 → A4 → A5 → A6 → Option B) : ob7 (ob6 X fun a b c d e f => some (v, a, b, c, d, e, f)) k = ob6 X (k v) := by
  cases X with
  | none => rfl
  | some x => rfl
/-- the reference's end of a line, once a fault is there -/
theorem fend {tl e F : Nat} (g0 : 0 < e) (g5 : e ≤ 5) (hp a b c d : Int32) (g mT : Nat → Int32) : f_X6_readLine_132 hp (nI tl) a b c d (nI e) (nI F) g mT = some (hp, a, b, c, d, nI e, nI F, g) := by
  unfold f_X6_readLine_132 f_X6_readLine_157
  rw [if_neg (nI_ne0 g0 (by omega)), ob6_s (p6_rdf (fl_e g0 g5) _ _ _ _ _ _ _)]
theorem p6_pl22f {tl e F : Nat} (g0 : 0 < e) (g5 : e ≤ 5) (n : Nat) (a b c d : Int32) (g mT : Nat → Int32) : f_X6_readPlan_22 (nI tl) mT (n + 1) a b c d (nI e) (nI F) g = some (a, b, c, d, nI e, nI F, g) := by
  rw [f_X6_readPlan_22, if_neg (nI_ne0 g0 (by omega))]
/-- a sign more, on both sides -/
theorem DR_sign {nc i N : Nat} {kd rm ch lk pl m : Nat → Int32} (hD : DR nc i kd rm ch lk pl m) (hi : i < 16) (hN : N ≤ 18) : DR nc (i + 1) kd rm ch lk (upd pl i (nI N)) (upd (upd m (21 + i) (nI N)) 37 (nI (i + 1))) := by
  obtain ⟨⟨hW, hP, ⟨hA, r2, r3, r4⟩, hh⟩, z1, z2, z3, z4⟩ := hD
  have hc := hW.1
  have mm : ∀ q, ¬ q = 37 → ¬ q = 21 + i → upd (upd m (21 + i) (nI N)) 37 (nI (i + 1)) q = m q := fun q a b => by rw [upd_n a, upd_n b]
  refine ⟨⟨hW, ⟨by omega, fun q hq => ?_⟩, ⟨RA_far (RA_far hA hc (by omega) _) hc (by omega) _, upd_s, fun q hq => ?_, by rw [mm 38 (by omega) (by omega)]; exact r4⟩, hh⟩, by rw [mm 39 (by omega) (by omega)]; exact z1, by rw [mm 40 (by omega) (by omega)]; exact z2, by rw [mm 41 (by omega) (by omega)]; exact z3, by rw [mm 42 (by omega) (by omega)]; exact z4⟩
  · by_cases e : q = i
    · subst e; rw [upd_s, nI_toInt (by omega)]; omega
    · rw [upd_n e]; exact hP.2 q (by omega)
  · by_cases e : q = i
    · subst e; rw [upd_s, upd_n (by omega), upd_s]
    · rw [upd_n e, mm (21 + q) (by omega) (by omega)]; exact r3 q (by omega)
theorem DR_sign0 {nc N : Nat} {kd rm ch lk pl m : Nat → Int32} (hD : DR nc 0 kd rm ch lk pl m) (hN : N ≤ 18) : DR nc 1 kd rm ch lk (upd pl 0 (nI N)) (upd (upd m 21 (nI N)) 37 1) := DR_sign hD (by omega) hN
theorem plan_loop {tl : Nat} {pB mT : Nat → Int32} (hT : TR tl pB mT) {nc : Nat} {kd rm ch lk : Nat → Int32} (f0 hp : Int32) : ∀ (d i f f' P : Nat) (tk fr nm beg srt val wr : Int32) (pl m : Nat → Int32), i + d = 16 → 1 ≤ i → d < f → d + 1 < f' → P ≤ tl → DR nc i kd rm ch lk pl m →
    (∃ (P2 ns' : Nat) (t1 fr1 n1 b1 s1 v1 w1 : Int32) (pl' m' : Nat → Int32), P < P2 ∧ P2 ≤ tl ∧ f_X4_planIsTaken_20 (nI tl) f0 1 pB f (nI i) (nI P) tk fr nm (nI i) pl = some (1, f0, nI P2, t1, fr1, n1, 1, nI ns', pl') ∧ (ob6 (f_X6_reads (nI tl) (nI P) beg srt val 0 wr mT) fun a b c d e g => ob7 (f_X6_readPlan_22 (nI tl) mT f' a b c d e g m) fun a b c d e g h => f_X6_readLine_132 hp (nI tl) a b c d e g h mT) = (ob6 (f_X6_reads (nI tl) (nI P2) b1 s1 v1 0 w1 mT) fun a b c d e g => some (hp, a, b, c, d, e, g, m')) ∧ DR nc ns' kd rm ch lk pl' m') ∨
    (∃ (e F : Nat) (p1 t1 n1 q c1 q1 q2 q3 q4 : Int32) (a1 m' : Nat → Int32), 0 < e ∧ e ≤ 5 ∧ F ≤ tl ∧ f_X4_planIsTaken_20 (nI tl) f0 1 pB f (nI i) (nI P) tk fr nm (nI i) pl = some (0, nI e, p1, t1, nI F, n1, q, c1, a1) ∧ (ob6 (f_X6_reads (nI tl) (nI P) beg srt val 0 wr mT) fun a b c d e g => ob7 (f_X6_readPlan_22 (nI tl) mT f' a b c d e g m) fun a b c d e g h => f_X6_readLine_132 hp (nI tl) a b c d e g h mT) = some (hp, q1, q2, q3, q4, nI e, nI F, m')) := by
  have ht := hT.1
  intro d
  induction d with
  | zero =>
    intro i f f' P tk fr nm beg srt val wr pl m h1 h2 h3 h4 hP hD
    obtain ⟨f, rfl⟩ : ∃ m, f = m + 1 := ⟨f - 1, by omega⟩
    obtain ⟨f', rfl⟩ : ∃ m, f' = m + 2 := ⟨f' - 2, by omega⟩
    have hi : i = 16 := by omega
    subst hi
    obtain ⟨K, F, P', N, T⟩ := tok_ex hT hP
    obtain ⟨x1, x2, x3, x4, x5, x6, x7, x8⟩ := T.2.2.2.2.2.2.2.1 beg srt val wr
    have T' := id T
    obtain ⟨u1, u2, u3, u4, u5, u6, uc, -, -⟩ := T'
    obtain ⟨nm', cq, -⟩ := uc tk fr nm
    rw [f_X4_planIsTaken_20, if_neg (show ¬ (16 : Int32) < nI 16 by decide), ob4_s cq, ob6_s x7]
    by_cases k3 : K = 3
    · subst k3
      have e5 : x5 = 0 := x8.2.2.1
      rw [if_pos (show nI 3 = 3 from rfl), if_neg (show ¬ nI 16 ≤ 0 by decide), f_X6_readPlan_22, e5, if_pos rfl, x8.2.2.2.2.1 (by omega), if_neg (show ¬ nI 3 = 2 by decide), ob7_p rfl, x8.1, x8.2.1]
      unfold f_X6_readLine_132 f_X6_readLine_153 f_X6_readLine_157
      rw [if_pos rfl, if_pos (show nI 3 = 3 from rfl), ob2_s (p6_rq1 _ _ _ _)]
      exact Or.inl ⟨P', 16, _, _, _, _, _, _, _, _, _, by have := u4 (by omega); omega, by omega, rfl, rfl, hD⟩
    rw [if_neg (show ¬ nI K = 3 from nI_ne_of (b := 3) (by omega) (by omega) k3)]
    unfold f_X4_planIsTaken_44
    by_cases k2 : K = 2
    · subst k2
      have e5 : x5 = 0 := x8.2.2.1
      rw [if_pos (show nI 2 = 2 from rfl), if_pos (show nI 16 = 16 from rfl), f_X6_readPlan_22, e5, if_pos rfl, x8.2.2.2.2.1 (by omega), if_pos (show nI 2 = 2 from rfl), show (37 : Int32) = nI 37 from rfl, ck_nI (by decide) (by decide), nI_clamp (by decide), hD.1.2.2.1.2.1, if_pos (show (16 : Int32) ≤ nI 16 by decide)]
      unfold f_X6_readPlan_55
      rw [ob2_s (p6_rq0 _ _ _), if_neg (show ¬ (5 : Int32) = 0 by decide), x8.2.1, show (5 : Int32) = nI 5 from rfl, p6_pl22f (by omega) (by omega), ob7_p rfl, fend (by omega) (by omega)]
      exact Or.inr ⟨5, F, _, _, _, _, _, _, _, _, _, _, _, by omega, by omega, by omega, rfl, rfl⟩
    rw [if_neg (show ¬ nI K = 2 from nI_ne_of (b := 2) (by omega) (by omega) k2), ob2_s (p4_mis f0 u5), cz0]
    by_cases k4 : K = 4
    · subst k4
      have e5 : x5 = 1 := x8.2.2.1
      rw [e5, x8.2.2.2.1 rfl, show (1 : Int32) = nI 1 from rfl, p6_pl22f (by omega) (by omega), ob7_p rfl, fend (by omega) (by omega)]
      exact Or.inr ⟨1, F, _, _, _, _, _, _, _, _, _, _, _, by omega, by omega, by omega, rfl, rfl⟩
    · have e5 : x5 = 0 := by have := x8.2.2.1; rw [if_neg k4] at this; exact this
      rw [f_X6_readPlan_22, e5, if_pos rfl, x8.2.2.2.2.1 (by omega), if_neg (show ¬ nI K = 2 from nI_ne_of (b := 2) (by omega) (by omega) k2), ob7_p rfl, x8.1, x8.2.1, if_neg k4]
      unfold f_X6_readLine_132 f_X6_readLine_153 f_X6_readLine_157
      rw [if_pos rfl, if_neg (show ¬ nI K = 3 from nI_ne_of (b := 3) (by omega) (by omega) k3), ob2_s (p6_rq0 _ _ _), ob6_s (p6_rdf (fl := 2) (by decide) _ _ _ _ _ _ _)]
      exact Or.inr ⟨2, F, _, _, _, _, _, _, _, _, _, _, _, by omega, by omega, by omega, rfl, rfl⟩
  | succ d ih =>
    intro i f f' P tk fr nm beg srt val wr pl m h1 h2 h3 h4 hP hD
    obtain ⟨f, rfl⟩ : ∃ m, f = m + 1 := ⟨f - 1, by omega⟩
    obtain ⟨f', rfl⟩ : ∃ m, f' = m + 2 := ⟨f' - 2, by omega⟩
    obtain ⟨K, F, P', N, T⟩ := tok_ex hT hP
    obtain ⟨x1, x2, x3, x4, x5, x6, x7, x8⟩ := T.2.2.2.2.2.2.2.1 beg srt val wr
    have T' := id T
    obtain ⟨u1, u2, u3, u4, u5, u6, uc, -, -⟩ := T'
    obtain ⟨nm', cq, cn⟩ := uc tk fr nm
    rw [f_X4_planIsTaken_20, if_neg (show ¬ (16 : Int32) < nI i from nI_nlt (a := 16) (by omega) (by omega)), ob4_s cq, ob6_s x7]
    by_cases k3 : K = 3
    · subst k3
      have e5 : x5 = 0 := x8.2.2.1
      rw [if_pos (show nI 3 = 3 from rfl), if_neg (nI_nle (show 0 < i by omega) (by omega)), f_X6_readPlan_22, e5, if_pos rfl, x8.2.2.2.2.1 (by omega), if_neg (show ¬ nI 3 = 2 by decide), ob7_p rfl, x8.1, x8.2.1]
      unfold f_X6_readLine_132 f_X6_readLine_153 f_X6_readLine_157
      rw [if_pos rfl, if_pos (show nI 3 = 3 from rfl), ob2_s (p6_rq1 _ _ _ _)]
      exact Or.inl ⟨P', i, _, _, _, _, _, _, _, _, _, by have := u4 (by omega); omega, by omega, rfl, rfl, hD⟩
    rw [if_neg (show ¬ nI K = 3 from nI_ne_of (b := 3) (by omega) (by omega) k3)]
    unfold f_X4_planIsTaken_44
    by_cases k2 : K = 2
    · subst k2
      have e5 : x5 = 0 := x8.2.2.1
      have nr := num_rel T x8 (LO := 0) (HI := 18) 0 18 (by omega) (by omega) rfl rfl f0 tk fr nm
      rw [if_pos (show nI 2 = 2 from rfl), if_neg (show ¬ nI i = 16 from nI_ne_of (b := 16) (by omega) (by omega) (by omega)), cn rfl, f_X6_readPlan_22, e5, if_pos rfl, x8.2.2.2.2.1 (by omega), if_pos (show nI 2 = 2 from rfl), show (37 : Int32) = nI 37 from rfl, ck_nI (by decide) (by decide), nI_clamp (by decide), hD.1.2.2.1.2.1, if_neg (show ¬ (16 : Int32) ≤ nI i from nI_ge (b := 16) (by omega) (by omega))]
      rw [e5, x8.2.2.2.2.1 (by omega)] at nr
      unfold f_X6_readPlan_55
      rw [ob2_s (p6_rq1 _ _ _ _), if_pos rfl, show (37 : Int32) = nI 37 from rfl, ck_nI (by decide) (by decide)]
      simp only [nI_clamp (show 37 < 2 ^ 31 by decide), hD.1.2.2.1.2.1]
      rw [show (21 + nI i : Int32) = nI (21 + i) from nI_add 21 i]
      simp only [ck_nI (show 21 + i < 61 by omega) (show 61 < 2 ^ 31 by decide), ck_nI (show 37 < 61 by decide) (show 61 < 2 ^ 31 by decide), nI_clamp (show 21 + i < 2 ^ 31 by omega), upd_n (show ¬ 37 = 21 + i by omega), hD.1.2.2.1.2.1, nI_1]
      rcases nr with ⟨-, -, hN, -, mq⟩ | ⟨e, p1, t1, n1, e0, e6, e7, -, mq⟩
      · rw [if_pos (show nI N ≤ 18 from nI_le (b := 18) hN (by omega)), mq, ob67]
        unfold f_X1_appendSign
        rw [if_neg (show ¬ (16 : Int32) ≤ nI i from nI_ge (b := 16) (by omega) (by omega)), ck_nI (by omega) (by decide), nI_clamp (by omega), ob2_s rfl, nI_1]
        have key := ih (i + 1) f (f' + 1) P' (nI 2) (nI F) (nI N) (nI F) 2 (nI N) x6 (upd pl i (nI N)) (upd (upd m (21 + i) (nI N)) 37 (nI (i + 1))) (by omega) (by omega) (by omega) (by omega) (by omega) (DR_sign hD (by omega) hN)
        have sw : ∀ (X : Option (Int32 × Int32 × Int32 × Int32 × Int32 × Int32)), (ob7 (ob6 X fun a b c d e g => f_X6_readPlan_22 (nI tl) mT (f' + 1) a b c d e g (upd (upd m (21 + i) (nI N)) 37 (nI (i + 1)))) fun a b c d e g h => f_X6_readLine_132 hp (nI tl) a b c d e g h mT) = (ob6 X fun a b c d e g => ob7 (f_X6_readPlan_22 (nI tl) mT (f' + 1) a b c d e g (upd (upd m (21 + i) (nI N)) 37 (nI (i + 1)))) fun a b c d e g h => f_X6_readLine_132 hp (nI tl) a b c d e g h mT) := fun X => by cases X with | none => rfl | some x => rfl
        rw [sw]
        rcases key with ⟨P2, ns', t1, fr1, n1, b1, s1, v1, w1, pl', m', g1, g2, g3, g4, g5⟩ | q
        · exact Or.inl ⟨P2, ns', t1, fr1, n1, b1, s1, v1, w1, pl', m', by omega, g2, g3, g4, g5⟩
        · exact Or.inr q
      · have hN : ¬ N ≤ 18 := fun q => (e7.2.1 rfl).2 ⟨Nat.zero_le _, q⟩
        rw [if_neg (show ¬ nI N ≤ 18 from nI_ge (a := 18) (by omega) (by omega)), ob7_p mq, p6_pl22f e0 e6, ob7_p rfl, fend e0 e6, (e7.2.1 rfl).1]
        exact Or.inr ⟨3, F, _, _, _, _, _, _, _, _, _, _, _, by omega, by omega, by omega, rfl, rfl⟩
    rw [if_neg (show ¬ nI K = 2 from nI_ne_of (b := 2) (by omega) (by omega) k2), ob2_s (p4_mis f0 u5), cz0]
    by_cases k4 : K = 4
    · subst k4
      have e5 : x5 = 1 := x8.2.2.1
      rw [e5, x8.2.2.2.1 rfl, show (1 : Int32) = nI 1 from rfl, p6_pl22f (by omega) (by omega), ob7_p rfl, fend (by omega) (by omega)]
      exact Or.inr ⟨1, F, _, _, _, _, _, _, _, _, _, _, _, by omega, by omega, by omega, rfl, rfl⟩
    · have e5 : x5 = 0 := by have := x8.2.2.1; rw [if_neg k4] at this; exact this
      rw [f_X6_readPlan_22, e5, if_pos rfl, x8.2.2.2.2.1 (by omega), if_neg (show ¬ nI K = 2 from nI_ne_of (b := 2) (by omega) (by omega) k2), ob7_p rfl, x8.1, x8.2.1, if_neg k4]
      unfold f_X6_readLine_132 f_X6_readLine_153 f_X6_readLine_157
      rw [if_pos rfl, if_neg (show ¬ nI K = 3 from nI_ne_of (b := 3) (by omega) (by omega) k3), ob2_s (p6_rq0 _ _ _), ob6_s (p6_rdf (fl := 2) (by decide) _ _ _ _ _ _ _)]
      exact Or.inr ⟨2, F, _, _, _, _, _, _, _, _, _, _, _, by omega, by omega, by omega, rfl, rfl⟩
