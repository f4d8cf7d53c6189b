/-! lines -/
theorem ob7_p {A1 A2 A3 A4 A5 A6 A7 B : Type} {a1 : A1} {a2 : A2} {a3 : A3} {a4 : A4} {a5 : A5} {a6 : A6} {a7 : A7} {x : Option (A1 × A2 × A3 × A4 × A5 × A6 × A7)} {k : A1 → A2 → A3 → A4 → A5 → A6 → A7 → Option B} (h : x = some (a1, a2, a3, a4, a5, a6, a7)) : ob7 x k = k a1 a2 a3 a4 a5 a6 a7 := by rw [h]; rfl
theorem p4_mis (flt : Int32) {K : Nat} (hK : K ≤ 4) : f_X4_misplaced flt (nI K) = some (0, if K = 4 then 1 else 2) := by
  unfold f_X4_misplaced f_X4_misplaced_14 f_X4_refused
  by_cases c : K = 4
  · subst c; rfl
  · rw [if_neg (show ¬ nI K = 4 from nI_ne_of (b := 4) (by omega) (by omega) c), if_neg c]
    rfl
theorem p6_rq1 (e beg flt wr : Int32) : f_X6_requires 1 e beg flt wr = some (flt, wr) := rfl
theorem p6_rq0 (e beg wr : Int32) : f_X6_requires 0 e beg 0 wr = some (e, beg) := rfl
theorem fl_ne {fl : Int32} (h : ¬ fl ≤ 0) : ¬ fl = 0 := fun e => h (by rw [e]; decide)
theorem p6_rqf {fl : Int32} (h : ¬ fl ≤ 0) (u a beg wr : Int32) : f_X6_requires u a beg fl wr = some (fl, wr) := by
  unfold f_X6_requires
  rw [if_neg (fl_ne h)]
  split <;> rfl
theorem p6_rdf {fl : Int32} (h : ¬ fl ≤ 0) (tl pos beg srt val wr : Int32) (mT : Nat → Int32) : f_X6_reads tl pos beg srt val fl wr mT = some (pos, beg, srt, val, fl, wr) := by
  unfold f_X6_reads
  rw [if_neg h]
theorem p6_rnf {fl : Int32} (h : ¬ fl ≤ 0) (lo hi tl pos beg srt val wr : Int32) (mT : Nat → Int32) : f_X6_readNumber lo hi tl pos beg srt val fl wr mT = some (0, pos, beg, srt, val, fl, wr) := by
  unfold f_X6_readNumber f_X6_readNumber_25 f_X6_readNumber_49 f_X6_readNumber_64
  rw [if_neg (fl_ne h), if_neg (fl_ne h), if_neg (fl_ne h), ob6_s (p6_rdf h _ _ _ _ _ _ _)]
theorem fl_e {e : Nat} (h0 : 0 < e) (h5 : e ≤ 5) : ¬ nI e ≤ 0 := nI_nle h0 (by omega)
/-- a number is taken -/
theorem num_rel {tl : Nat} {pB mT : Nat → Int32} {P K F P' N : Nat} (hK : Tok tl pB mT P K F P' N) {pos beg srt val flt wr : Int32} (hA : AtT K F P' N pos beg srt val flt wr) {LO HI : Int32} (lo hi : Nat) (hlo : lo < 2 ^ 31) (hhi : hi < 2 ^ 31) (eLO : LO = nI lo) (eHI : HI = nI hi) (f0 tk fr nm : Int32) : (K = 2 ∧ lo ≤ N ∧ N ≤ hi ∧ f_X4_numberIsTaken LO HI (nI tl) f0 (nI P) tk fr nm pB = some (1, f0, nI P', 2, nI F, nI N) ∧ f_X6_readNumber LO HI (nI tl) pos beg srt val flt wr mT = (ob6 (f_X6_reads (nI tl) (nI P') (nI F) 2 (nI N) 0 wr mT) fun a b c d e f => some (nI N, a, b, c, d, e, f))) ∨ ∃ (e : Nat) (p1 t1 n1 : Int32), 0 < e ∧ e ≤ 5 ∧ ((K = 4 → e = 1) ∧ (K = 2 → e = 3 ∧ ¬ (lo ≤ N ∧ N ≤ hi)) ∧ (¬ K = 2 → e = if K = 4 then 1 else 2)) ∧ f_X4_numberIsTaken LO HI (nI tl) f0 (nI P) tk fr nm pB = some (0, nI e, p1, t1, nI F, n1) ∧ f_X6_readNumber LO HI (nI tl) pos beg srt val flt wr mT = some (0, pos, beg, srt, val, nI e, nI F) := by
  subst eLO eHI
  obtain ⟨-, -, -, -, k5, k6, kc, -, -⟩ := hK
  obtain ⟨a1, a2, a3, a4, a5, a6⟩ := hA
  obtain ⟨nm', c1, c2⟩ := kc tk fr nm
  unfold f_X4_numberIsTaken
  rw [ob4_s c1, show (2 : Int32) = nI 2 from rfl]
  by_cases h2 : K = 2
  · subst h2
    rw [if_pos rfl, c2 rfl]
    have ef : flt = 0 := a3
    have es := a5 (by omega)
    have ev := a6 rfl
    subst ef es ev a1 a2
    unfold f_X6_readNumber f_X6_readNumber_21 f_X6_readNumber_25 f_X6_readNumber_49 f_X6_readNumber_64 f_X4_numberIsTaken_33 f_X4_refused
    rw [if_pos rfl, if_pos (show nI 2 = 2 from rfl), ob2_s (p6_rq1 _ _ _ _), if_pos rfl]
    by_cases h3 : lo ≤ N ∧ N ≤ hi
    · rw [if_neg (nI_nlt h3.1 (by omega)), if_pos (nI_le h3.2 hhi), ob1_s (p6_in_t (by rw [i64_32, i64_32, i64_32, nI_toInt (by omega), nI_toInt (by omega), nI_toInt (by omega)]; omega)), ob2_s (p6_rq1 _ _ _ _), if_pos rfl]
      exact Or.inl ⟨rfl, h3.1, h3.2, rfl, rfl⟩
    · refine Or.inr ⟨3, nI P', nI 2, nI N, by omega, by omega, ⟨fun e => by omega, fun _ => ⟨rfl, h3⟩, fun q => absurd rfl q⟩, ?_, ?_⟩
      · by_cases h4 : N < lo
        · rw [if_pos (nI_lt h4 (by omega))]; rfl
        · rw [if_neg (nI_nlt (by omega) (by omega)), if_neg (nI_ge (by omega) (by omega))]; rfl
      · rw [ob1_s (p6_in_f (by rw [i64_32, i64_32, i64_32, nI_toInt (by omega), nI_toInt (by omega), nI_toInt (by omega)]; omega)), ob2_s (p6_rq0 _ _ _), if_neg (show ¬ (3 : Int32) = 0 by decide), ob6_s (p6_rdf (fl := 3) (by decide) _ _ _ _ _ _ _)]
        rfl
  · rw [if_neg (nI_ne_of (by omega) (by omega) h2), ob2_s (p4_mis f0 k5), cz0]
    refine Or.inr ⟨if K = 4 then 1 else 2, nI P', nI K, nm', by split <;> omega, by split <;> omega, ⟨fun e => if_pos e, fun q => absurd q h2, fun _ => rfl⟩, ?_, ?_⟩
    · by_cases c : K = 4
      · rw [if_pos c, if_pos c]; rfl
      · rw [if_neg c, if_neg c]; rfl
    · by_cases c : K = 4
      · rw [if_pos c] at a3
        rw [if_pos c, a3, p6_rnf (by decide), a4 c]
        rfl
      · rw [if_neg c] at a3
        rw [if_neg c]
        have es := a5 (by omega)
        subst a3 es a1 a2
        unfold f_X6_readNumber f_X6_readNumber_21 f_X6_readNumber_25 f_X6_readNumber_49 f_X6_readNumber_64
        rw [if_pos rfl, if_neg (show ¬ nI K = 2 from nI_ne_of (b := 2) (by omega) (by omega) h2), ob2_s (p6_rq0 _ _ _), if_neg (show ¬ (2 : Int32) = 0 by decide), if_neg (show ¬ (2 : Int32) = 0 by decide), ob6_s (p6_rdf (fl := 2) (by decide) _ _ _ _ _ _ _)]
        rfl
/-- what the reference has read so far, against the class's row -/
def DR (nc ns : Nat) (kd rm ch lk pl m : Nat → Int32) : Prop := MR nc ns 0 kd rm ch lk pl m ∧ m 39 = 0 ∧ m 40 = 0 ∧ m 41 = 0 ∧ m 42 = 0
/-- a line of a cell, behind its name -/
theorem cell_rel {tl : Nat} {pB mT : Nat → Int32} (hT : TR tl pB mT) {nc ns P k : Nat} (hP : P ≤ tl) (hk : k < 4) {kd rm ch lk pl m : Nat → Int32} (hD : DR nc ns kd rm ch lk pl m) (hn : nc < 5) (f0 tk fr nm beg srt val wr : Int32) (hp : Int32) :
    (∃ (P2 : Nat) (t1 fr1 n1 b1 s1 v1 w1 : Int32) (kd' rm' ch' lk' m' : Nat → Int32), P < P2 ∧ P2 ≤ tl ∧ f_X4_cellIsTaken (nI k) (nI tl) f0 (nI P) tk fr nm pB (nI nc) kd rm ch lk = some (1, f0, nI P2, t1, fr1, n1, nI (nc + 1), kd', rm', ch', lk') ∧ (ob6 (f_X6_reads (nI tl) (nI P) beg srt val 0 wr mT) fun a b c d e f => (if e ≤ 0 then ob7 (f_X6_readUnit (nI k) (nI tl) a b c d e f m mT) fun a b c d e f g => f_X6_readLine_132 hp (nI tl) a b c d e f g mT else some (hp, a, b, c, d, e, f, m))) = (ob6 (f_X6_reads (nI tl) (nI P2) b1 s1 v1 0 w1 mT) fun a b c d e f => some (hp, a, b, c, d, e, f, m')) ∧ DR (nc + 1) ns kd' rm' ch' lk' pl m') ∨
    (∃ (e F : Nat) (p1 t1 n1 c1 q1 q2 q3 q4 : Int32) (a1 a2 a3 a4 m' : Nat → Int32), 0 < e ∧ e ≤ 5 ∧ F ≤ tl ∧ f_X4_cellIsTaken (nI k) (nI tl) f0 (nI P) tk fr nm pB (nI nc) kd rm ch lk = some (0, nI e, p1, t1, nI F, n1, c1, a1, a2, a3, a4) ∧ (ob6 (f_X6_reads (nI tl) (nI P) beg srt val 0 wr mT) fun a b c d e f => (if e ≤ 0 then ob7 (f_X6_readUnit (nI k) (nI tl) a b c d e f m mT) fun a b c d e f g => f_X6_readLine_132 hp (nI tl) a b c d e f g mT else some (hp, a, b, c, d, e, f, m))) = some (hp, q1, q2, q3, q4, nI e, nI F, m')) := by
  have ht := hT.1
  obtain ⟨⟨hW, hPl, ⟨hA, r2, r3, r4⟩, hh⟩, z39, z40, z41, z42⟩ := id hD
  have hs := hPl.1
  unfold f_X4_cellIsTaken
  rw [if_pos (show nI nc < 5 from nI_lt (b := 5) hn (by omega))]
  obtain ⟨K1, F1, P1, N1, T1⟩ := tok_ex hT hP
  obtain ⟨x1, x2, x3, x4, x5, x6, x7, x8⟩ := T1.2.2.2.2.2.2.2.1 beg srt val wr
  rw [ob6_s x7]
  have T1' := id T1
  obtain ⟨u1, u2, u3, u4, -⟩ := T1'
  by_cases b4 : K1 = 4
  · -- the first token is none
    have e5 : x5 = 1 := by have := x8.2.2.1; rw [if_pos b4] at this; exact this
    rcases num_rel T1 x8 (LO := 1) (HI := 99) 1 99 (by omega) (by omega) rfl rfl f0 tk fr nm with ⟨q, -⟩ | ⟨e, p1, t1, n1, e0, e6, e7, cq, mq⟩
    · omega
    · have ew := x8.2.2.2.1 b4
      refine Or.inr ⟨e, F1, p1, t1, n1, nI nc, x1, x2, x3, x4, kd, rm, ch, lk, m, e0, e6, by omega, ?_, ?_⟩
      · rw [ob6_s cq, i00]
      · rw [e5, if_neg (show ¬ (1 : Int32) ≤ 0 by decide), e7.1 b4, ew]
        rfl
  have e5 : x5 = 0 := by have := x8.2.2.1; rw [if_neg b4] at this; exact this
  rw [if_pos (show x5 ≤ 0 by rw [e5]; decide)]
  unfold f_X6_readUnit
  rw [show (20 : Int32) = nI 20 from rfl, ck_nI (by decide) (by decide), nI_clamp (show 20 < 2 ^ 31 by decide), hA.1]
  unfold bd
  dsimp only
  rw [show (4 * nI nc : Int32) = nI (4 * nc) from by rw [show (4 : Int32) = nI 4 from rfl, pk_mul], show (nI (4 * nc) + 0 : Int32) = nI (4 * nc) from nI_add (4 * nc) 0, nI_1, show (nI (4 * nc) + 2 : Int32) = nI (4 * nc + 2) from nI_add (4 * nc) 2, show (nI (4 * nc) + 3 : Int32) = nI (4 * nc + 3) from nI_add (4 * nc) 3]
  simp only [ck_nI (show 4 * nc < 61 by omega) (show 61 < 2 ^ 31 by decide), ck_nI (show 4 * nc + 1 < 61 by omega) (show 61 < 2 ^ 31 by decide), ck_nI (show 4 * nc + 2 < 61 by omega) (show 61 < 2 ^ 31 by decide), ck_nI (show 4 * nc + 3 < 61 by omega) (show 61 < 2 ^ 31 by decide), ck_nI (show 20 < 61 by decide) (show 61 < 2 ^ 31 by decide), nI_clamp (show 4 * nc < 2 ^ 31 by omega), nI_clamp (show 4 * nc + 1 < 2 ^ 31 by omega), nI_clamp (show 4 * nc + 2 < 2 ^ 31 by omega), nI_clamp (show 4 * nc + 3 < 2 ^ 31 by omega), nI_clamp (show 20 < 2 ^ 31 by decide), upd_s]
  -- the reference's end, once a fault is there
  have fend : ∀ (e F : Nat) (a b c d : Int32) (g : Nat → Int32), 0 < e → e ≤ 5 → f_X6_readLine_132 hp (nI tl) a b c d (nI e) (nI F) g mT = some (hp, a, b, c, d, nI e, nI F, g) := fun e F a b c d g g0 g5 => by
    unfold f_X6_readLine_132 f_X6_readLine_157
    rw [if_neg (nI_ne0 g0 (by omega)), ob6_s (p6_rdf (fl_e g0 g5) _ _ _ _ _ _ _)]
  rcases Or.symm (num_rel T1 x8 (LO := 1) (HI := 99) 1 99 (by omega) (by omega) rfl rfl f0 tk fr nm) with ⟨e, p1, t1, n1, e0, e6, e7, cq, mq⟩ | ⟨k1, lo1, hi1, cq, mq⟩
  · rw [ob6_s cq, i00, ob7_p mq, ob7_p (p6_rnf (fl_e e0 e6) _ _ _ _ _ _ _ _ _), ob7_p (p6_rnf (fl_e e0 e6) _ _ _ _ _ _ _ _ _), ob7_p rfl, fend _ _ _ _ _ _ _ e0 e6]
    exact Or.inr ⟨e, F1, p1, t1, n1, nI nc, x1, x2, x3, x4, kd, rm, ch, lk, _, e0, e6, by omega, rfl, rfl⟩
  obtain ⟨K2, F2, P2, N2, T2⟩ := tok_ex hT (show P1 ≤ tl by omega)
  obtain ⟨y1, y2, y3, y4, y5, y6, y7, y8⟩ := T2.2.2.2.2.2.2.2.1 (nI F1) 2 (nI N1) x6
  rw [ob6_s y7] at mq
  have T2' := id T2
  obtain ⟨v1, v2, v3, v4, -⟩ := T2'
  rw [ob6_s cq, i10, ob7_p mq]
  rcases Or.symm (num_rel T2 y8 (LO := 0) 0 N1 (by omega) (by omega) rfl rfl f0 2 (nI F1) (nI N1)) with ⟨e, p1, t1, n1, e0, e6, e7, cq2, mq2⟩ | ⟨k2, lo2, hi2, cq2, mq2⟩
  · rw [ob6_s cq2, i00, ob7_p mq2, ob7_p (p6_rnf (fl_e e0 e6) _ _ _ _ _ _ _ _ _), ob7_p rfl, fend _ _ _ _ _ _ _ e0 e6]
    exact Or.inr ⟨e, F2, p1, t1, n1, nI nc, y1, y2, y3, y4, kd, rm, ch, lk, _, e0, e6, by omega, rfl, rfl⟩
  obtain ⟨K3, F3, P3, N3, T3⟩ := tok_ex hT (show P2 ≤ tl by omega)
  obtain ⟨w1, w2, w3, w4, w5, w6, w7, w8⟩ := T3.2.2.2.2.2.2.2.1 (nI F2) 2 (nI N2) y6
  rw [ob6_s w7] at mq2
  have T3' := id T3
  obtain ⟨o1, o2, o3, o4, -⟩ := T3'
  rw [ob6_s cq2, i10, ob7_p mq2]
  rcases Or.symm (num_rel T3 w8 (LO := 0) (HI := 9) 0 9 (by omega) (by omega) rfl rfl f0 2 (nI F2) (nI N2)) with ⟨e, p1, t1, n1, e0, e6, e7, cq3, mq3⟩ | ⟨k3, lo3, hi3, cq3, mq3⟩
  · rw [ob6_s cq3, i00, ob7_p mq3, ob7_p rfl, fend _ _ _ _ _ _ _ e0 e6]
    exact Or.inr ⟨e, F3, p1, t1, n1, nI nc, w1, w2, w3, w4, kd, rm, ch, lk, _, e0, e6, by omega, rfl, rfl⟩
  obtain ⟨K4, F4, P4, N4, T4⟩ := tok_ex hT (show P3 ≤ tl by omega)
  obtain ⟨z1, z2, z3, z4, z5, z6, z7, z8⟩ := T4.2.2.2.2.2.2.2.1 (nI F3) 2 (nI N3) w6
  rw [ob6_s z7] at mq3
  have T4' := id T4
  obtain ⟨j1, j2, j3, j4, j5, j6, jc, -, -⟩ := T4'
  obtain ⟨nm4, cq4, -⟩ := jc 2 (nI F3) (nI N3)
  have hap : f_X1_appendCell (nI k) (nI N1) (nI N2) (nI N3) (nI nc) kd rm ch lk = some (nI (nc + 1), upd kd nc (nI k), upd rm nc (nI N1), upd ch nc (nI N2), upd lk nc (nI N3)) := by
    unfold f_X1_appendCell
    rw [if_neg (show ¬ (5 : Int32) ≤ nI nc from nI_ge (b := 5) hn (by omega)), ck_nI hn (by decide), ck_nI hn (by decide), ck_nI hn (by decide), ck_nI hn (by decide), nI_clamp (by omega), nI_1]
  rw [ob6_s cq3, i10, ob5_s hap, ob4_s cq4, ob7_p mq3, ob7_p rfl]
  unfold f_X6_readLine_132
  by_cases c4 : K4 = 4
  · have ez : z5 = 1 := by have := z8.2.2.1; rw [if_pos c4] at this; exact this
    rw [if_neg (show ¬ nI K4 = 3 from nI_ne_of (b := 3) (by omega) (by omega) (by omega)), ob2_s (p4_mis f0 j5), i00, ez, if_neg (show ¬ (1 : Int32) = 0 by decide), z8.2.2.2.1 c4]
    unfold f_X6_readLine_157
    rw [ob6_s (p6_rdf (fl := 1) (by decide) _ _ _ _ _ _ _)]
    exact Or.inr ⟨1, F4, _, _, _, _, _, _, _, _, _, _, _, _, _, by omega, by omega, by omega, by rw [if_pos c4]; rfl, rfl⟩
  have ez : z5 = 0 := by have := z8.2.2.1; rw [if_neg c4] at this; exact this
  rw [ez, if_pos rfl, z8.2.2.2.2.1 (by omega), z8.1, z8.2.1]
  unfold f_X6_readLine_153 f_X6_readLine_157
  by_cases c3 : K4 = 3
  · subst c3
    rw [if_pos (show nI 3 = 3 from rfl), if_pos (show nI 3 = 3 from rfl), ob2_s (p6_rq1 _ _ _ _)]
    have mm : ∀ q, ¬ q = 20 → ¬ q = 4 * nc → ¬ q = 4 * nc + 1 → ¬ q = 4 * nc + 2 → ¬ q = 4 * nc + 3 → upd (upd (upd (upd (upd m (4 * nc) (nI k)) (4 * nc + 1) (nI N1)) (4 * nc + 2) (nI N2)) (4 * nc + 3) (nI N3)) 20 (upd (upd (upd (upd m (4 * nc) (nI k)) (4 * nc + 1) (nI N1)) (4 * nc + 2) (nI N2)) (4 * nc + 3) (nI N3) 20 + 1) q = m q := fun q a b c d e => by rw [upd_n a, upd_n e, upd_n d, upd_n c, upd_n b]
    have e20 : upd (upd (upd (upd m (4 * nc) (nI k)) (4 * nc + 1) (nI N1)) (4 * nc + 2) (nI N2)) (4 * nc + 3) (nI N3) 20 = nI nc := by rw [upd_n (by omega), upd_n (by omega), upd_n (by omega), upd_n (by omega)]; exact hA.1
    refine Or.inl ⟨P4, nI 3, nI F4, nm4, nI F4, nI 3, z4, z6, _, _, _, _, _, by have := j4 (by omega); omega, by omega, rfl, rfl, ⟨⟨by omega, fun j hj => ?_⟩, hPl, ⟨⟨by rw [upd_s, e20, nI_1], fun j hj => ?_⟩, by rw [mm 37 (by omega) (by omega) (by omega) (by omega) (by omega)]; exact r2, fun i hi => by rw [mm (21 + i) (by omega) (by omega) (by omega) (by omega) (by omega)]; exact r3 i hi, by rw [mm 38 (by omega) (by omega) (by omega) (by omega) (by omega)]; exact r4⟩, by omega⟩, by rw [mm 39 (by omega) (by omega) (by omega) (by omega) (by omega)]; exact z39, by rw [mm 40 (by omega) (by omega) (by omega) (by omega) (by omega)]; exact z40, by rw [mm 41 (by omega) (by omega) (by omega) (by omega) (by omega)]; exact z41, by rw [mm 42 (by omega) (by omega) (by omega) (by omega) (by omega)]; exact z42⟩
    · by_cases e : j = nc
      · subst e
        rw [upd_s, upd_s, upd_s, upd_s, nI_toInt (by omega), nI_toInt (by omega), nI_toInt (by omega), nI_toInt (by omega)]
        omega
      · rw [upd_n e, upd_n e, upd_n e, upd_n e]
        exact hW.2 j (by omega)
    · by_cases e : j = nc
      · subst e
        rw [upd_s, upd_s, upd_s, upd_s]
        refine ⟨?_, ?_, ?_, ?_⟩
        · rw [upd_n (by omega), upd_n (by omega), upd_n (by omega), upd_n (by omega), upd_s]
        · rw [upd_n (by omega), upd_n (by omega), upd_n (by omega), upd_s]
        · rw [upd_n (by omega), upd_n (by omega), upd_s]
        · rw [upd_n (by omega), upd_s]
      · rw [upd_n e, upd_n e, upd_n e, upd_n e, mm _ (by omega) (by omega) (by omega) (by omega) (by omega), mm _ (by omega) (by omega) (by omega) (by omega) (by omega), mm _ (by omega) (by omega) (by omega) (by omega) (by omega), mm _ (by omega) (by omega) (by omega) (by omega) (by omega)]
        exact hA.2 j (by omega)
  · rw [if_neg (show ¬ nI K4 = 3 from nI_ne_of (b := 3) (by omega) (by omega) c3), if_neg (show ¬ nI K4 = 3 from nI_ne_of (b := 3) (by omega) (by omega) c3), ob2_s (p4_mis f0 j5), i00, ob2_s (p6_rq0 _ _ _), ob6_s (p6_rdf (fl := 2) (by decide) _ _ _ _ _ _ _)]
    exact Or.inr ⟨2, F4, _, _, _, _, _, _, _, _, _, _, _, _, _, by omega, by omega, by omega, by rw [if_neg c4]; rfl, rfl⟩
