theorem op_text {tl : Nat} {pB mT : Nat → Int32} (hT : TR tl pB mT) (g1 g2 g3 g4 g5 g6 o1 o2 o3 o4 o5 o6 : Int32) (o7 o8 o9 o10 o11 : Nat → Int32) (n1 n2 n3 n4 n5 n6 : Int32) (n7 n8 n9 n10 n11 : Nat → Int32) (ss it jt hp ps bg so va fm wm : Int32) (mSt mK mD : Nat → Int32) :
    (∃ (L nc ns : Nat) (p1 p2 p3 p4 p5 : Int32) (o1' o2' o3' o4' o5' o6' : Int32) (o7' o8' o9' o10' o11' : Nat → Int32) (kd rm ch lk pl : Nat → Int32) (hp' ps' bg' so' va' wr' : Int32) (mSt' mK' mD' : Nat → Int32), f_X5_text (nI tl) g1 g2 g3 g4 g5 g6 pB o1 o2 o3 o4 o5 o6 o7 o8 o9 o10 o11 n1 n2 n3 n4 n5 n6 n7 n8 n9 n10 n11 ss it jt = some (nI L, 0, 0, p1, p2, p3, p4, p5, o1', o2', o3', o4', o5', o6', o7', o8', o9', o10', o11', nI nc, nI ns, 0, 0, 0, 0, kd, rm, ch, lk, pl, 0, 0, 0) ∧ f_X6_text hp (nI tl) ps bg so va fm wm mSt mK mD mT = some (nI L, hp', 0, ps', bg', so', va', 0, wr', mSt', mK', mD') ∧ (∀ sh sc sv, KR 0 nc ns 0 0 0 0 0 kd rm ch lk pl sh sc sv mSt') ∧ mK' 0 = 0 ∧ mK' 1 = 0) ∨
    (∃ (r e : Int32) (p1 p2 p3 p4 p5 : Int32) (o1' o2' o3' o4' o5' o6' : Int32) (o7' o8' o9' o10' o11' : Nat → Int32) (hp' ps' bg' so' va' wr' : Int32) (mD' : Nat → Int32), f_X5_text (nI tl) g1 g2 g3 g4 g5 g6 pB o1 o2 o3 o4 o5 o6 o7 o8 o9 o10 o11 n1 n2 n3 n4 n5 n6 n7 n8 n9 n10 n11 ss it jt = some (r, 0, e, p1, p2, p3, p4, p5, o1', o2', o3', o4', o5', o6', o7', o8', o9', o10', o11', n1, n2, n3, n4, n5, n6, n7, n8, n9, n10, n11, ss, it, jt) ∧ f_X6_text hp (nI tl) ps bg so va fm wm mSt mK mD mT = some (r, hp', 0, ps', bg', so', va', e, wr', mSt, mK, mD')) := by
  have ht := hT.1
  obtain ⟨D0, f1, f2⟩ := p6_fd hp mD
  have key := tell_loop hT mSt mK 1000 1000 0 0 0 0 g3 g4 g5 0 bg so va wm o7 o8 o9 o10 o11 D0 (by omega) (by omega) (by omega) (by omega) (DR_0 f2) (Or.inl rfl) (fun _ => rfl)
  have m0 : ∀ X : Option (Int32 × Int32 × Int32 × Int32 × Int32 × Int32 × Int32 × Int32 × Int32 × (Nat → Int32) × (Nat → Int32) × (Nat → Int32)), (ob6 (f_X6_reads (nI tl) (nI 0) bg so va 0 wm mT) fun a b c d e g => f_X6_text_20 (nI tl) mSt mK mT 1000 (nI 0) 0 a b c d e g D0) = X → f_X6_text hp (nI tl) ps bg so va fm wm mSt mK mD mT = X := fun X hX => by
    unfold f_X6_text
    rw [ob2_s f1]
    exact hX
  rcases key with ⟨L, nc, ns, p1, p2, p3, p4, p5, h2, a, b, c, d, g, kd, rm, ch, lk, pl, m', w1, w2, w3, w4⟩ | ⟨e, F, x, p1, p2, p4, p5, c1, c2, h2, a, b, c, d, kd, rm, ch, lk, pl, m', w1, w2, w3, w4, w5⟩
  · obtain ⟨S, s1, s2, s3⟩ := p6_kd mSt mK m'
    have em := m0 _ w3
    unfold f_X6_text_44 at em
    rw [if_pos (show (0 : Int32) ≤ 0 by decide), ob2_s s1] at em
    have ec : f_X4_tellTo (nI tl) g1 g2 g3 g4 g5 g6 pB o1 o2 o3 o4 o5 o6 o7 o8 o9 o10 o11 = some (nI L, 0, p1, p2, p3, p4, p5, nI nc, nI ns, 0, 0, 0, 0, kd, rm, ch, lk, pl) := w2
    have hk := DR_KR w4
    refine Or.inl ⟨L, nc, ns, p1, p2, p3, p4, p5, nI nc, nI ns, 0, 0, 0, 0, kd, rm, ch, lk, pl, c5 kd n7, c5 rm n8, c5 ch n9, c5 lk n10, c16 pl n11, h2, a, b, c, d, g, S, _, m', ?_, em, fun sh sc sv => ?_, ?_, ?_⟩
    · unfold f_X5_text
      rw [ob18_p ec, if_neg (nI_pos (by omega))]
      rfl
    · have q := KR_mv (b := 0) (m' := S) (hk sh sc sv) (fun k hk => by rw [Nat.zero_add]; exact s2 k hk)
      exact ⟨MR_start q.1 _ _ _ _ _ (fun _ _ => rfl), q.2.1, q.2.2⟩
    · rw [upd_n (by omega), upd_s]
    · rw [upd_s]
  · have em := m0 _ w5
    unfold f_X6_text_44 at em
    rw [if_neg (fl_e w1 w2)] at em
    have ec : f_X4_tellTo (nI tl) g1 g2 g3 g4 g5 g6 pB o1 o2 o3 o4 o5 o6 o7 o8 o9 o10 o11 = some ((-10) - nI F, nI e, p1, p2, nI F, p4, p5, c1, c2, 0, 0, 0, 0, kd, rm, ch, lk, pl) := w4
    have neg : (-10 : Int32) - nI F < 0 := z_lt0.mpr (by
      have z : (-10 : Int32).toInt = -10 := rfl
      have zF := nI_toInt (show F < 2 ^ 31 by omega)
      rw [i_sub (by omega) (by omega)]
      omega)
    refine Or.inr ⟨(-10) - nI F, nI e, p1, p2, nI F, p4, p5, c1, c2, 0, 0, 0, 0, kd, rm, ch, lk, pl, h2, a, b, c, d, nI F, m', ?_, em⟩
    unfold f_X5_text
    rw [ob18_p ec, if_pos neg]
