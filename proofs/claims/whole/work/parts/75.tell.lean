theorem ob14_p {A1 A2 A3 A4 A5 A6 A7 A8 A9 A10 A11 A12 A13 A14 B : Type} {a1 : A1} {a2 : A2} {a3 : A3} {a4 : A4} {a5 : A5} {a6 : A6} {a7 : A7} {a8 : A8} {a9 : A9} {a10 : A10} {a11 : A11} {a12 : A12} {a13 : A13} {a14 : A14} {x : Option (A1 × A2 × A3 × A4 × A5 × A6 × A7 × A8 × A9 × A10 × A11 × A12 × A13 × A14)} {k : A1 → A2 → A3 → A4 → A5 → A6 → A7 → A8 → A9 → A10 → A11 → A12 → A13 → A14 → Option B} (h : x = some (a1, a2, a3, a4, a5, a6, a7, a8, a9, a10, a11, a12, a13, a14)) : ob14 x k = k a1 a2 a3 a4 a5 a6 a7 a8 a9 a10 a11 a12 a13 a14 := by rw [h]; rfl
theorem ob18_p {A1 A2 A3 A4 A5 A6 A7 A8 A9 A10 A11 A12 A13 A14 A15 A16 A17 A18 B : Type} {a1 : A1} {a2 : A2} {a3 : A3} {a4 : A4} {a5 : A5} {a6 : A6} {a7 : A7} {a8 : A8} {a9 : A9} {a10 : A10} {a11 : A11} {a12 : A12} {a13 : A13} {a14 : A14} {a15 : A15} {a16 : A16} {a17 : A17} {a18 : A18} {x : Option (A1 × A2 × A3 × A4 × A5 × A6 × A7 × A8 × A9 × A10 × A11 × A12 × A13 × A14 × A15 × A16 × A17 × A18)} {k : A1 → A2 → A3 → A4 → A5 → A6 → A7 → A8 → A9 → A10 → A11 → A12 → A13 → A14 → A15 → A16 → A17 → A18 → Option B} (h : x = some (a1, a2, a3, a4, a5, a6, a7, a8, a9, a10, a11, a12, a13, a14, a15, a16, a17, a18)) : ob18 x k = k a1 a2 a3 a4 a5 a6 a7 a8 a9 a10 a11 a12 a13 a14 a15 a16 a17 a18 := by rw [h]; rfl
theorem ob8_6 {X : Option (Int32 × Int32 × Int32 × Int32 × Int32 × Int32)} {hp : Int32} {m : Nat → Int32} {B : Type} (k : Int32 → Int32 → Int32 → Int32 → Int32 → Int32 → Int32 → (Nat → Int32) → Option B) : ob8 (ob6 X fun a b c d e g => some (hp, a, b, c, d, e, g, m)) k = ob6 X fun a b c d e g => k hp a b c d e g m := by
  cases X with
  | none => rfl
  | some x => rfl
theorem tell_loop {tl : Nat} {pB mT : Nat → Int32} (hT : TR tl pB mT) (mSt mK : Nat → Int32) : ∀ (f f' P v nc ns : Nat) (tk fr nm hp beg srt val wr : Int32) (kd rm ch lk pl m : Nat → Int32), tl - P < f → tl - P + 1 < f' → P ≤ tl → v ≤ P → DR nc ns kd rm ch lk pl m → (hp = 0 ∨ hp = 1) → (hp = 0 → ns = 0) →
    (∃ (L nc' ns' : Nat) (p1 p2 p3 p4 p5 h2 a b c d g : Int32) (kd' rm' ch' lk' pl' m' : Nat → Int32), L ≤ 160 ∧ f_X4_tellTo_21 (nI tl) pB 0 0 0 0 f (nI v) 0 (nI P) tk fr nm hp (nI nc) (nI ns) kd rm ch lk pl = some (nI L, 0, p1, p2, p3, p4, p5, nI nc', nI ns', 0, 0, 0, 0, kd', rm', ch', lk', pl') ∧ (ob6 (f_X6_reads (nI tl) (nI P) beg srt val 0 wr mT) fun a b c d e g => f_X6_text_20 (nI tl) mSt mK mT f' (nI v) hp a b c d e g m) = f_X6_text_44 (nI L) h2 (nI tl) a b c d 0 g mSt mK m' mT ∧ DR nc' ns' kd' rm' ch' lk' pl' m') ∨
    (∃ (e F : Nat) (x p1 p2 p4 p5 c1 c2 h2 a b c d : Int32) (kd' rm' ch' lk' pl' m' : Nat → Int32), 0 < e ∧ e ≤ 5 ∧ F ≤ tl ∧ f_X4_tellTo_21 (nI tl) pB 0 0 0 0 f (nI v) 0 (nI P) tk fr nm hp (nI nc) (nI ns) kd rm ch lk pl = some ((-10) - nI F, nI e, p1, p2, nI F, p4, p5, c1, c2, 0, 0, 0, 0, kd', rm', ch', lk', pl') ∧ (ob6 (f_X6_reads (nI tl) (nI P) beg srt val 0 wr mT) fun a b c d e g => f_X6_text_20 (nI tl) mSt mK mT f' (nI v) hp a b c d e g m) = f_X6_text_44 x h2 (nI tl) a b c d (nI e) (nI F) mSt mK m' mT) := by
  have ht := hT.1
  intro f
  induction f with
  | zero => intro f' P v nc ns tk fr nm hp beg srt val wr kd rm ch lk pl m h1; omega
  | succ f ih =>
    intro f' P v nc ns tk fr nm hp beg srt val wr kd rm ch lk pl m h1 h2 hP hv hD hu hns
    obtain ⟨f', rfl⟩ : ∃ m, f' = m + 1 := ⟨f' - 1, by omega⟩
    obtain ⟨K, F, P', N, T⟩ := tok_ex hT hP
    obtain ⟨x1, x2, x3, x4, x5, x6, x7, x8⟩ := T.2.2.2.2.2.2.2.1 beg srt val wr
    have T' := id T
    obtain ⟨u1, u2, u3, u4, u5, u6, uc, -, -⟩ := T'
    obtain ⟨nm', cq, cn⟩ := uc tk fr nm
    rw [f_X4_tellTo_21, if_neg (show ¬ (160 : Int32) < nI v from nI_nlt (a := 160) (by omega) (by omega)), ob4_s cq, ob6_s x7, f_X6_text_20]
    by_cases k0 : K = 0
    · subst k0
      have e5 : x5 = 0 := x8.2.2.1
      rw [if_pos (show nI 0 = 0 from rfl), e5, if_pos rfl, x8.2.2.2.2.1 (by omega), if_pos (show nI 0 = 0 from rfl)]
      exact Or.inl ⟨v, nc, ns, _, _, _, _, _, _, _, _, _, _, _, _, _, _, _, _, _, by omega, rfl, rfl, hD⟩
    rw [if_neg (show ¬ nI K = 0 from nI_ne_of (b := 0) (by omega) (by omega) k0)]
    by_cases k4 : K = 4
    · subst k4
      have e5 : x5 = 1 := x8.2.2.1
      unfold f_X4_lineIsTaken
      rw [if_neg (show ¬ nI 4 = 1 by decide), ob2_s (p4_mis 0 u5), cz0, ob14_p rfl, i00, e5, if_neg (show ¬ (1 : Int32) = 0 by decide), x8.2.2.2.1 rfl]
      exact Or.inr ⟨1, F, _, _, _, _, _, _, _, _, _, _, _, _, _, _, _, _, _, _, by omega, by omega, by omega, rfl, rfl⟩
    have e5 : x5 = 0 := by have := x8.2.2.1; rw [if_neg k4] at this; exact this
    have es : x3 = nI K := x8.2.2.2.2.1 (by omega)
    have hx3 : ¬ x3 = 0 := by rw [es]; exact nI_ne_of (b := 0) (by omega) (by omega) k0
    rw [if_pos e5, if_neg hx3]
    have hFP := u4 k0
    rcases line_rel hT T k0 k4 x8 hD hu hns nm' with ⟨P2, nc', ns', t1, fr1, n1, hp', b1, s1, v1, w1, kd', rm', ch', lk', pl', m', g1, g2, g3, g4, g5, g6, g7⟩ | ⟨e, F2, p1, t1, n1, c1, c2, c3, q0, q1, q2, q3, q4, a1, a2, a3, a4, a5, m', g1, g2, g3, g4, g5⟩
    · rw [ob14_p g3, i10, g4, ob8_6, nI_1]
      exact ih f' P2 (v + 1) nc' ns' t1 fr1 n1 hp' b1 s1 v1 w1 kd' rm' ch' lk' pl' m' (by omega) (by omega) g2 (by omega) g5 g6 g7
    · obtain ⟨f', rfl⟩ : ∃ m, f' = m + 1 := ⟨f' - 1, by omega⟩
      rw [ob14_p g4, i00, ob8_p g5, f_X6_text_20, if_neg (nI_ne0 g1 (by omega))]
      exact Or.inr ⟨e, F2, _, _, _, _, _, _, _, _, _, _, _, _, _, _, _, _, _, _, g1, g2, g3, rfl, rfl⟩
theorem p6_kd_loop (mK mD : Nat → Int32) : ∀ (d i n : Nat) (m : Nat → Int32), i + d = 61 → d < n → ∃ m', f_X6_keepDraft_2 mK mD n (nI i) m = some (m', upd (upd mK 0 0) 1 0) ∧ (∀ k, i ≤ k → k < 61 → m' k = mD k) ∧ ∀ k, (k < i ∨ 61 ≤ k) → m' k = m k := by
  intro d
  induction d with
  | zero =>
    intro i n m h1 h2
    obtain ⟨n, rfl⟩ : ∃ m, n = m + 1 := ⟨n - 1, by omega⟩
    refine ⟨m, ?_, fun k g1 g2 => by omega, fun k _ => rfl⟩
    rw [f_X6_keepDraft_2, show (61 : Int32) = nI 61 from rfl, if_pos (nI_le (by omega) (by omega))]
    rfl
  | succ d ih =>
    intro i n m h1 h2
    obtain ⟨n, rfl⟩ : ∃ m, n = m + 1 := ⟨n - 1, by omega⟩
    obtain ⟨m', e1, e2, e3⟩ := ih (i + 1) n (upd m i (mD i)) (by omega) (by omega)
    refine ⟨m', ?_, fun k g1 g2 => ?_, fun k g => ?_⟩
    · rw [f_X6_keepDraft_2, show (61 : Int32) = nI 61 from rfl, if_neg (nI_ge (by omega) (by omega)), ck_nI (by omega) (by decide), ck_nI (by omega) (by decide), nI_clamp (by omega), nI_1, e1]
    · by_cases c : k = i
      · subst c; rw [e3 k (by omega), upd_s]
      · exact e2 k (by omega) g2
    · rw [e3 k (by omega), upd_n (by omega)]
theorem p6_fd_loop (hp : Int32) : ∀ (d i n : Nat) (m : Nat → Int32), i + d = 61 → d < n → (∀ k, k < i → m k = 0) → ∃ m', f_X6_firstDraft_2 hp n (nI i) m = some (0, m') ∧ ∀ k, k < 61 → m' k = 0 := by
  intro d
  induction d with
  | zero =>
    intro i n m h1 h2 h3
    obtain ⟨n, rfl⟩ : ∃ m, n = m + 1 := ⟨n - 1, by omega⟩
    refine ⟨m, ?_, fun k g => h3 k (by omega)⟩
    rw [f_X6_firstDraft_2, show (61 : Int32) = nI 61 from rfl, if_pos (nI_le (by omega) (by omega))]
  | succ d ih =>
    intro i n m h1 h2 h3
    obtain ⟨n, rfl⟩ : ∃ m, n = m + 1 := ⟨n - 1, by omega⟩
    obtain ⟨m', e1, e2⟩ := ih (i + 1) n (upd m i 0) (by omega) (by omega) (fun k hk => by
      by_cases c : k = i
      · subst c; exact upd_s
      · rw [upd_n c]; exact h3 k (by omega))
    refine ⟨m', ?_, e2⟩
    rw [f_X6_firstDraft_2, show (61 : Int32) = nI 61 from rfl, if_neg (nI_ge (by omega) (by omega)), ck_nI (by omega) (by decide), nI_clamp (by omega), nI_1, e1]
theorem p6_kd (mSt mK mD : Nat → Int32) : ∃ m', f_X6_keepDraft mSt mK mD = some (m', upd (upd mK 0 0) 1 0) ∧ (∀ k, k < 61 → m' k = mD k) ∧ ∀ k, 61 ≤ k → m' k = mSt k := by
  obtain ⟨m', e1, e2, e3⟩ := p6_kd_loop mK mD 61 0 1000 mSt (by omega) (by omega)
  exact ⟨m', e1, fun k hk => e2 k (Nat.zero_le _) hk, fun k hk => e3 k (Or.inr hk)⟩
theorem p6_fd (hp : Int32) (mD : Nat → Int32) : ∃ m', f_X6_firstDraft hp mD = some (0, m') ∧ ∀ k, k < 61 → m' k = 0 := p6_fd_loop hp 61 0 1000 mD (by omega) (by omega) (fun k hk => by omega)
theorem DR_0 {kd rm ch lk pl m : Nat → Int32} (hm : ∀ k, k < 61 → m k = 0) : DR 0 0 kd rm ch lk pl m :=
  ⟨⟨⟨by omega, fun j hj => by omega⟩, ⟨by omega, fun j hj => by omega⟩, ⟨⟨hm 20 (by omega), fun j hj => by omega⟩, hm 37 (by omega), fun i hi => by omega, hm 38 (by omega)⟩, by omega⟩, hm 39 (by omega), hm 40 (by omega), hm 41 (by omega), hm 42 (by omega)⟩
theorem DR_KR {nc ns : Nat} {kd rm ch lk pl m : Nat → Int32} (h : DR nc ns kd rm ch lk pl m) (sh sc sv : Nat → Int32) : KR 0 nc ns 0 0 0 0 0 kd rm ch lk pl sh sc sv m := by
  obtain ⟨h1, h2, h3, h4, h5⟩ := h
  have e : (fun k => m (0 + k)) = m := by funext k; rw [Nat.zero_add]
  unfold KR
  rw [e]
  exact ⟨h1, ⟨h2.symm, h3.symm, h4.symm, by decide, by decide, by decide, by decide, by decide, by decide⟩, by omega, h5, fun i hi => by omega⟩
