theorem plan_rel {tl : Nat} {pB mT : Nat → Int32} (hT : TR tl pB mT) {nc P : Nat} (hP : P ≤ tl) {kd rm ch lk pl m : Nat → Int32} (hD : DR nc 0 kd rm ch lk pl m) (f0 tk fr nm beg srt val wr hp : Int32) :
    (∃ (P2 ns' : Nat) (t1 fr1 n1 b1 s1 v1 w1 : Int32) (pl' m' : Nat → Int32), P < P2 ∧ P2 ≤ tl ∧ f_X4_planIsTaken (nI tl) f0 (nI P) tk fr nm 0 pB (nI 0) pl = some (1, f0, nI P2, t1, fr1, n1, 1, nI ns', pl') ∧ (ob6 (f_X6_reads (nI tl) (nI P) beg srt val 0 wr mT) fun a b c d e g => (if e ≤ 0 then ob7 (f_X6_readPlan (nI tl) a b c d e g m mT) fun a b c d e g h => f_X6_readLine_132 hp (nI tl) a b c d e g h mT else some (hp, a, b, c, d, e, g, m))) = (ob6 (f_X6_reads (nI tl) (nI P2) b1 s1 v1 0 w1 mT) fun a b c d e g => some (hp, a, b, c, d, e, g, m')) ∧ DR nc ns' kd rm ch lk pl' m') ∨
    (∃ (e F : Nat) (p1 t1 n1 q c1 q1 q2 q3 q4 : Int32) (a1 m' : Nat → Int32), 0 < e ∧ e ≤ 5 ∧ F ≤ tl ∧ f_X4_planIsTaken (nI tl) f0 (nI P) tk fr nm 0 pB (nI 0) pl = some (0, nI e, p1, t1, nI F, n1, q, c1, a1) ∧ (ob6 (f_X6_reads (nI tl) (nI P) beg srt val 0 wr mT) fun a b c d e g => (if e ≤ 0 then ob7 (f_X6_readPlan (nI tl) a b c d e g m mT) fun a b c d e g h => f_X6_readLine_132 hp (nI tl) a b c d e g h mT else some (hp, a, b, c, d, e, g, m))) = some (hp, q1, q2, q3, q4, nI e, nI F, m')) := by
  have ht := hT.1
  obtain ⟨K, F, P', N, T⟩ := tok_ex hT hP
  obtain ⟨x1, x2, x3, x4, x5, x6, x7, x8⟩ := T.2.2.2.2.2.2.2.1 beg srt val wr
  have T' := id T
  obtain ⟨u1, u2, u3, u4, u5, u6, uc, -, -⟩ := T'
  obtain ⟨nm', cq, cn⟩ := uc tk fr nm
  have nr := num_rel T x8 (LO := 0) (HI := 18) 0 18 (by omega) (by omega) rfl rfl f0 tk fr nm
  unfold f_X4_planIsTaken
  rw [i00, f_X4_planIsTaken_20, if_neg (show ¬ (16 : Int32) < 0 by decide), ob4_s cq, ob6_s x7, if_pos (show (0 : Int32) ≤ 0 by decide)]
  have e44 : ∀ X : Option (Int32 × Int32 × Int32 × Int32 × Int32 × Int32 × Int32 × Int32 × (Nat → Int32)), (if nI K = 3 then X else X) = X := fun X => by split <;> rfl
  rw [e44]
  unfold f_X4_planIsTaken_44
  by_cases k4 : K = 4
  · subst k4
    have e5 : x5 = 1 := x8.2.2.1
    rw [if_neg (show ¬ nI 4 = 2 by decide), ob2_s (p4_mis f0 u5), cz0, e5, if_neg (show ¬ (1 : Int32) ≤ 0 by decide), x8.2.2.2.1 rfl]
    exact Or.inr ⟨1, F, _, _, _, _, _, _, _, _, _, _, _, by omega, by omega, by omega, rfl, rfl⟩
  have e5 : x5 = 0 := by have := x8.2.2.1; rw [if_neg k4] at this; exact this
  rw [if_pos (show x5 ≤ 0 by rw [e5]; decide)]
  unfold f_X6_readPlan
  rcases nr with ⟨k2, -, hN, -, mq⟩ | ⟨e, p1, t1, n1, e0, e6, e7, -, mq⟩
  · subst k2
    rw [if_pos (show nI 2 = 2 from rfl), if_neg (show ¬ (0 : Int32) = 16 by decide), cn rfl, if_pos (show nI N ≤ 18 from nI_le (b := 18) hN (by omega)), mq, ob67]
    unfold f_X1_appendSign
    rw [if_neg (show ¬ (16 : Int32) ≤ nI 0 by decide), ck_nI (by decide) (by decide), nI_clamp (by decide), ob2_s rfl]
    have key := plan_loop hT (nc := nc) (kd := kd) (rm := rm) (ch := ch) (lk := lk) f0 hp 15 1 999 1000 P' (nI 2) (nI F) (nI N) (nI F) 2 (nI N) x6 (upd pl 0 (nI N)) (upd (upd m 21 (nI N)) 37 1) (by omega) (by omega) (by omega) (by omega) (by omega) (DR_sign0 hD hN)
    have sw : ∀ (X : Option (Int32 × Int32 × Int32 × Int32 × Int32 × Int32)), (ob7 (ob6 X fun a b c d e g => ck 21 61 <| ck 37 61 <| f_X6_readPlan_22 (nI tl) mT 1000 a b c d e g (upd (upd m (21 : Int32).toNatClampNeg (nI N)) (37 : Int32).toNatClampNeg 1)) fun a b c d e g h => f_X6_readLine_132 hp (nI tl) a b c d e g h mT) = (ob6 X fun a b c d e g => ob7 (f_X6_readPlan_22 (nI tl) mT 1000 a b c d e g (upd (upd m 21 (nI N)) 37 1)) fun a b c d e g h => f_X6_readLine_132 hp (nI tl) a b c d e g h mT) := fun X => by cases X with | none => rfl | some x => rfl
    rw [sw]
    have z1 : (nI 0 + 1 : Int32) = nI 1 := rfl
    have z2 : (0 + 1 : Int32) = nI 1 := rfl
    rw [z1, z2]
    rcases key with ⟨P2, ns', t1, fr1, n1, b1, s1, v1, w1, pl', m', g1, g2, g3, g4, g5⟩ | q
    · exact Or.inl ⟨P2, ns', t1, fr1, n1, b1, s1, v1, w1, pl', m', by omega, g2, g3, g4, g5⟩
    · exact Or.inr q
  · rw [ob7_p mq]
    have cks : ∀ {α : Type} (X : Option α), (ck (21 : Int32) 61 <| ck (37 : Int32) 61 <| X) = X := fun X => rfl
    rw [cks, p6_pl22f e0 e6, ob7_p rfl, fend e0 e6]
    by_cases k2 : K = 2
    · subst k2
      have hN : ¬ N ≤ 18 := fun q => (e7.2.1 rfl).2 ⟨Nat.zero_le _, q⟩
      rw [if_pos (show nI 2 = 2 from rfl), if_neg (show ¬ (0 : Int32) = 16 by decide), cn rfl, if_neg (show ¬ nI N ≤ 18 from nI_ge (a := 18) (by omega) (by omega)), (e7.2.1 rfl).1]
      exact Or.inr ⟨3, F, _, _, _, _, _, _, _, _, _, _, _, by omega, by omega, by omega, rfl, rfl⟩
    · rw [if_neg (show ¬ nI K = 2 from nI_ne_of (b := 2) (by omega) (by omega) k2), ob2_s (p4_mis f0 u5), cz0, if_neg k4]
      have e2 : e = 2 := by have := e7.2.2 k2; rw [if_neg k4] at this; exact this
      subst e2
      exact Or.inr ⟨2, F, _, _, _, _, _, _, _, _, _, _, _, by omega, by omega, by omega, rfl, rfl⟩
/-- behind the checks of a line -/
theorem p6_100f {fl : Int32} (h : ¬ fl ≤ 0) (v1 : Int32) {u : Int32} (hu : u = 0 ∨ u = 1) (hp tl pos beg srt val wr : Int32) (m mT : Nat → Int32) : f_X6_readLine_100 v1 u hp tl pos beg srt val fl wr m mT = some (u, pos, beg, srt, val, fl, wr, m) := by
  unfold f_X6_readLine_100
  rw [show (∀ X : Option (Int32 × Int32 × Int32 × Int32 × Int32 × Int32 × Int32 × (Nat → Int32)), cz u X = X) from fun X => by rcases hu with rfl | rfl; exact cz0; exact cz1, ob6_s (p6_rdf h _ _ _ _ _ _ _), if_neg h]
theorem p6_78f {fl : Int32} (h : ¬ fl ≤ 0) (v1 u : Int32) {hp : Int32} (hu : hp = 0 ∨ hp = 1) (tl pos beg srt val wr : Int32) (m mT : Nat → Int32) : ∃ u', f_X6_readLine_78 v1 u hp tl pos beg srt val fl wr m mT = some (u', pos, beg, srt, val, fl, wr, m) := by
  unfold f_X6_readLine_78 f_X6_readLine_95
  rw [ob2_s (p6_rqf h _ _ _ _), p6_100f h v1 (Or.inl rfl), p6_100f h v1 (Or.inr rfl)]
  by_cases c : hp = 0
  · rw [if_pos c]
    by_cases c2 : v1 = 4
    · rw [if_pos c2]; exact ⟨_, rfl⟩
    · rw [if_neg c2]; exact ⟨_, rfl⟩
  · rw [if_neg c]; exact ⟨_, rfl⟩
theorem p6_56f {fl : Int32} (h : ¬ fl ≤ 0) (v1 u : Int32) {hp : Int32} (hu : hp = 0 ∨ hp = 1) (tl pos beg srt val wr : Int32) (m mT : Nat → Int32) : ∃ u', f_X6_readLine_56 v1 u hp tl pos beg srt val fl wr m mT = some (u', pos, beg, srt, val, fl, wr, m) := by
  unfold f_X6_readLine_56 f_X6_readLine_73
  rw [ob2_s (p6_rqf h _ _ _ _)]
  by_cases c2 : v1 = 4
  · rw [if_pos c2]
    by_cases c : hp = 0
    · rw [if_pos c]; exact p6_78f h _ _ hu _ _ _ _ _ _ _ _
    · rw [if_neg c]; exact p6_78f h _ _ hu _ _ _ _ _ _ _ _
  · rw [if_neg c2]; exact p6_78f h _ _ hu _ _ _ _ _ _ _ _
/-- a name that begins no line, or another token -/
theorem p6_none {nc : Nat} {m : Nat → Int32} (hm : m 20 = nI nc) {hp : Int32} (hu : hp = 0 ∨ hp = 1) (tl pos beg srt val wr : Int32) (mT : Nat → Int32) : ∃ u', f_X6_readLine_17 (-4) hp tl pos beg srt val 0 wr m mT = some (u', pos, beg, srt, val, 2, beg, m) := by
  unfold f_X6_readLine_17 f_X6_readLine_30 f_X6_readLine_51
  rw [if_pos rfl, ob2_s (p6_rq0 _ _ _), if_neg (show ¬ (-4 : Int32) = 4 by decide), show (20 : Int32) = nI 20 from rfl, ck_nI (by decide) (by decide), nI_clamp (by decide), hm]
  by_cases c : (5 : Int32) ≤ nI nc
  · rw [if_pos c]; exact p6_56f (by decide) _ _ hu _ _ _ _ _ _ _ _
  · rw [if_neg c]; exact p6_56f (by decide) _ _ hu _ _ _ _ _ _ _ _
/-- a line, behind its first token -/
theorem line_rel {tl : Nat} {pB mT : Nat → Int32} (hT : TR tl pB mT) {P K F P' N nc ns : Nat} (hK : Tok tl pB mT P K F P' N) (hK0 : ¬ K = 0) (hK4 : ¬ K = 4) {pos beg srt val flt wr : Int32} (hA : AtT K F P' N pos beg srt val flt wr) {kd rm ch lk pl m : Nat → Int32} (hD : DR nc ns kd rm ch lk pl m) {hp : Int32} (hu : hp = 0 ∨ hp = 1) (hns : hp = 0 → ns = 0) (nm : Int32) :
    (∃ (P2 nc' ns' : Nat) (t1 fr1 n1 hp' b1 s1 v1 w1 : Int32) (kd' rm' ch' lk' pl' m' : Nat → Int32), P' < P2 ∧ P2 ≤ tl ∧ f_X4_lineIsTaken (nI tl) 0 (nI P') (nI K) (nI F) nm hp pB (nI nc) (nI ns) kd rm ch lk pl = some (1, 0, nI P2, t1, fr1, n1, hp', nI nc', nI ns', kd', rm', ch', lk', pl') ∧ f_X6_readLine hp (nI tl) pos beg srt val flt wr m mT = (ob6 (f_X6_reads (nI tl) (nI P2) b1 s1 v1 0 w1 mT) fun a b c d e g => some (hp', a, b, c, d, e, g, m')) ∧ DR nc' ns' kd' rm' ch' lk' pl' m' ∧ (hp' = 0 ∨ hp' = 1) ∧ (hp' = 0 → ns' = 0)) ∨
    (∃ (e F2 : Nat) (p1 t1 n1 c1 c2 c3 q0 q1 q2 q3 q4 : Int32) (a1 a2 a3 a4 a5 m' : Nat → Int32), 0 < e ∧ e ≤ 5 ∧ F2 ≤ tl ∧ f_X4_lineIsTaken (nI tl) 0 (nI P') (nI K) (nI F) nm hp pB (nI nc) (nI ns) kd rm ch lk pl = some (0, nI e, p1, t1, nI F2, n1, c1, c2, c3, a1, a2, a3, a4, a5) ∧ f_X6_readLine hp (nI tl) pos beg srt val flt wr m mT = some (q0, q1, q2, q3, q4, nI e, nI F2, m')) := by
  have ht := hT.1
  obtain ⟨k1, k2, k3, k4, k5, -⟩ := hK
  obtain ⟨a1, a2, a3, a4, a5, a6⟩ := hA
  have e3 : flt = 0 := by rw [if_neg hK4] at a3; exact a3
  have es := a5 (by omega)
  subst e3 es a1 a2
  have hm20 := hD.1.2.2.1.1.1
  have hc := hD.1.1.1
  unfold f_X4_lineIsTaken f_X6_readLine
  have bad : ∀ (X : Option (Int32 × Int32 × Int32 × Int32 × Int32 × Int32 × Int32 × (Nat → Int32))), X = f_X6_readLine_17 (-4) hp (nI tl) (nI P') (nI F) (nI K) val 0 wr m mT → ∃ (e F2 : Nat) (p1 t1 n1 c1 c2 c3 q0 q1 q2 q3 q4 : Int32) (a1 a2 a3 a4 a5 m' : Nat → Int32), 0 < e ∧ e ≤ 5 ∧ F2 ≤ tl ∧ (ob2 (f_X4_misplaced 0 (nI K)) fun a_25 pLatestFault_26 => cz a_25 <| some (a_25, pLatestFault_26, nI P', nI K, nI F, nm, hp, nI nc, nI ns, kd, rm, ch, lk, pl)) = some (0, nI e, p1, t1, nI F2, n1, c1, c2, c3, a1, a2, a3, a4, a5) ∧ X = some (q0, q1, q2, q3, q4, nI e, nI F2, m') := fun X hX => by
    obtain ⟨u', e⟩ := p6_none hm20 hu (nI tl) (nI P') (nI F) (nI K) val wr mT
    rw [hX, e, ob2_s (p4_mis 0 k5), cz0, if_neg hK4]
    exact ⟨2, F, _, _, _, _, _, _, _, _, _, _, _, _, _, _, _, _, _, by omega, by omega, by omega, rfl, rfl⟩
  by_cases h1 : K = 1
  · subst h1
    rw [if_pos (show nI 1 = 1 from rfl), if_pos (show nI 1 = 1 from rfl)]
    have h17 : ∀ v : Int32, ¬ v = (-4) → f_X6_readLine_17 v hp (nI tl) (nI P') (nI F) (nI 1) val 0 wr m mT = (if v = 4 then f_X6_readLine_51 v hp (nI tl) (nI P') (nI F) (nI 1) val 0 wr m mT else if 5 ≤ nI nc then f_X6_readLine_56 v 0 hp (nI tl) (nI P') (nI F) (nI 1) val 0 wr m mT else f_X6_readLine_51 v hp (nI tl) (nI P') (nI F) (nI 1) val 0 wr m mT) := fun v hv => by
      unfold f_X6_readLine_17 f_X6_readLine_30
      rw [if_neg hv, ob2_s (p6_rq1 _ _ _ _), show (20 : Int32) = nI 20 from rfl, ck_nI (by decide) (by decide), nI_clamp (by decide), hm20]
    rcases name_rel hT k2 k3 with ⟨n1, n2⟩ | ⟨n1, n2, n3⟩ | ⟨k, hk, n1, n2, n3⟩
    · -- the plan
      rw [ob1_s n2, i10, ob1_s n1, h17 4 (by decide), if_pos rfl]
      unfold f_X6_readLine_51 f_X6_readLine_56 f_X6_readLine_73
      rw [ob2_s (p6_rq1 _ _ _ _), if_pos rfl]
      rcases hu with rfl | rfl
      · have e0 := hns rfl
        subst e0
        rw [i00]
        unfold f_X6_readLine_78 f_X6_readLine_95 f_X6_readLine_100
        rw [ob2_s (p6_rq1 _ _ _ _), i00, if_pos rfl, cz1]
        simp only [eq_self, if_true]
        rcases plan_rel hT k3 hD 0 (nI 1) (nI F) nm (nI F) (nI 1) val wr 1 with ⟨P2, ns', t1, fr1, m1, b1, s1, v1, w1, pl', m', g1, g2, g3, g4, g5⟩ | ⟨e, F2, p1, t1, m1, q, c1, q1, q2, q3, q4, a1, m', g1, g2, g3, g4, g5⟩
        · rw [ob9_p g3, cz1, g4]
          exact Or.inl ⟨P2, nc, ns', _, _, _, 1, _, _, _, _, _, _, _, _, _, _, g1, g2, rfl, rfl, g5, Or.inr rfl, fun e => absurd e (by decide)⟩
        · rw [ob9_p g4, cz0, g5]
          exact Or.inr ⟨e, F2, _, _, _, _, _, _, _, _, _, _, _, _, _, _, _, _, _, g1, g2, g3, rfl, rfl⟩
      · rw [i10]
        unfold f_X6_readLine_78 f_X6_readLine_95
        rw [ob2_s (p6_rq0 _ _ _), i10, p6_100f (by decide) _ (Or.inr rfl)]
        unfold f_X4_planIsTaken f_X4_refused
        rw [i10, ob2_s rfl, cz0, ob9_p rfl, cz0]
        exact Or.inr ⟨4, F, _, _, _, _, _, _, _, _, _, _, _, _, _, _, _, _, _, by omega, by omega, by omega, rfl, rfl⟩
    · rw [ob1_s n2, i00, ob1_s n3, if_pos rfl, ob1_s n1]
      exact Or.inr (bad _ rfl)
    · -- a cell
      have hk4 : ¬ nI k = (-4) := fun e => by have := i_eq.mp e; rw [nI_toInt (by omega)] at this; have : (-4 : Int32).toInt = -4 := rfl; omega
      have hk5 : ¬ nI k = 4 := nI_ne_of (b := 4) (by omega) (by omega) (by omega)
      rw [ob1_s n2, i00, ob1_s n3, if_neg hk4, ob1_s n1, h17 (nI k) hk4, if_neg hk5]
      by_cases hn : nc < 5
      · rw [if_neg (show ¬ (5 : Int32) ≤ nI nc from nI_ge (b := 5) hn (by omega))]
        unfold f_X6_readLine_51 f_X6_readLine_56 f_X6_readLine_73 f_X6_readLine_78 f_X6_readLine_95
        rw [ob2_s (p6_rq1 _ _ _ _), if_neg hk5, ob2_s (p6_rq1 _ _ _ _), if_neg hk5]
        have h100 : (if hp = 0 then f_X6_readLine_100 (nI k) 0 hp (nI tl) (nI P') (nI F) (nI 1) val 0 wr m mT else f_X6_readLine_100 (nI k) 1 hp (nI tl) (nI P') (nI F) (nI 1) val 0 wr m mT) = (ob6 (f_X6_reads (nI tl) (nI P') (nI F) (nI 1) val 0 wr mT) fun a b c d e f => (if e ≤ 0 then ob7 (f_X6_readUnit (nI k) (nI tl) a b c d e f m mT) fun a b c d e f g => f_X6_readLine_132 hp (nI tl) a b c d e f g mT else some (hp, a, b, c, d, e, f, m))) := by
          unfold f_X6_readLine_100
          rcases hu with rfl | rfl
          · rw [i00, cz0]
            simp only [if_neg hk5]
          · rw [i10, cz1]
            simp only [if_neg hk5]
        rw [h100]
        rcases cell_rel hT k3 hk hD hn 0 (nI 1) (nI F) nm (nI F) (nI 1) val wr hp with ⟨P2, t1, fr1, m1, b1, s1, v1, w1, kd', rm', ch', lk', m', g1, g2, g3, g4, g5⟩ | ⟨e, F2, p1, t1, m1, c1, q1, q2, q3, q4, a1, a2, a3, a4, m', g1, g2, g3, g4, g5⟩
        · rw [ob11_s g3, cz1, g4]
          exact Or.inl ⟨P2, nc + 1, ns, _, _, _, hp, _, _, _, _, _, _, _, _, _, _, g1, g2, rfl, rfl, g5, hu, hns⟩
        · rw [ob11_s g4, cz0, g5]
          exact Or.inr ⟨e, F2, _, _, _, _, _, _, _, _, _, _, _, _, _, _, _, _, _, g1, g2, g3, rfl, rfl⟩
      · have e5 : nc = 5 := by omega
        subst e5
        rw [if_pos (show (5 : Int32) ≤ nI 5 by decide)]
        unfold f_X6_readLine_56 f_X6_readLine_73
        rw [ob2_s (p6_rq0 _ _ _), if_neg hk5]
        obtain ⟨u', e⟩ := p6_78f (fl := 5) (by decide) (nI k) 1 hu (nI tl) (nI P') (nI F) (nI 1) val (nI F) m mT
        rw [e]
        unfold f_X4_cellIsTaken f_X4_refused
        rw [if_neg (show ¬ nI 5 < 5 by decide), ob2_s rfl, cz0, ob11_s rfl, cz0]
        exact Or.inr ⟨5, F, _, _, _, _, _, _, _, _, _, _, _, _, _, _, _, _, _, by omega, by omega, by omega, rfl, rfl⟩
  · rw [if_neg (show ¬ nI K = 1 from nI_ne_of (b := 1) (by omega) (by omega) h1), if_neg (show ¬ nI K = 1 from nI_ne_of (b := 1) (by omega) (by omega) h1)]
    exact Or.inr (bad _ rfl)
