/-! tokens -/
/-- the end of what lies between lo and hi from P on -/
def spn (lo hi : Int32) (b : Nat → Int32) : Nat → Nat → Nat
  | 0, P => P
  | d + 1, P => if lo ≤ b P ∧ b P ≤ hi then spn lo hi b d (P + 1) else P
theorem spn_s (lo hi : Int32) (b : Nat → Int32) (d P : Nat) : spn lo hi b (d + 1) P = if lo ≤ b P ∧ b P ≤ hi then spn lo hi b d (P + 1) else P := rfl
theorem spn_r (lo hi : Int32) (b : Nat → Int32) : ∀ d P, P ≤ spn lo hi b d P ∧ spn lo hi b d P ≤ P + d ∧ (∀ i, P ≤ i → i < spn lo hi b d P → lo ≤ b i ∧ b i ≤ hi) ∧ (spn lo hi b d P < P + d → ¬ (lo ≤ b (spn lo hi b d P) ∧ b (spn lo hi b d P) ≤ hi)) := by
  intro d
  induction d with
  | zero => intro P; exact ⟨Nat.le_refl _, Nat.le_refl _, fun i h1 h2 => by have : spn lo hi b 0 P = P := rfl; omega, fun h => absurd h (by have : spn lo hi b 0 P = P := rfl; omega)⟩
  | succ d ih =>
    intro P
    rw [spn_s]
    by_cases c : lo ≤ b P ∧ b P ≤ hi
    · rw [if_pos c]
      obtain ⟨h1, h2, h3, h4⟩ := ih (P + 1)
      refine ⟨by omega, by omega, fun i g1 g2 => ?_, fun g => h4 (by omega)⟩
      by_cases e : i = P
      · subst e; exact c
      · exact h3 i (by omega) g2
    · rw [if_neg c]
      exact ⟨Nat.le_refl _, by omega, fun i g1 g2 => by omega, fun _ => c⟩
theorem i_nlt {x y : Int32} : ¬ x < y ↔ y ≤ x := by rw [i_lt, i_le]; omega
theorem p4_pass {tl : Nat} (ht : tl ≤ 160) (lo hi : Int32) (b : Nat → Int32) : ∀ (d P f : Nat), P + d = tl → d < f → f_X4_passAll_0 lo hi (nI tl) b f (nI P) = some (nI (spn lo hi b d P)) := by
  intro d
  induction d with
  | zero =>
    intro P f h1 h2
    obtain ⟨f, rfl⟩ : ∃ m, f = m + 1 := ⟨f - 1, by omega⟩
    rw [f_X4_passAll_0, if_pos (nI_le (by omega) (by omega))]
    rfl
  | succ d ih =>
    intro P f h1 h2
    obtain ⟨f, rfl⟩ : ∃ m, f = m + 1 := ⟨f - 1, by omega⟩
    rw [f_X4_passAll_0, if_neg (nI_ge (by omega) (by omega)), ck_nI (by omega) (by decide), ck_nI (by omega) (by decide), nI_clamp (by omega), nI_1, ih (P + 1) f (by omega) (by omega), spn_s]
    by_cases c1 : b P < lo
    · rw [if_pos c1, if_neg (fun q => by have := i_lt.mp c1; have := i_le.mp q.1; omega)]
    · rw [if_neg c1]
      by_cases c2 : hi < b P
      · rw [if_pos c2, if_neg (fun q => by have := i_lt.mp c2; have := i_le.mp q.2; omega)]
      · rw [if_neg c2, if_pos ⟨i_nlt.mp c1, i_nlt.mp c2⟩]
def bA (tl : Nat) (b : Nat → Int32) (p : Nat) : Int32 := if p < tl then b p else (-1)
theorem p6_byte {tl : Nat} {pB mT : Nat → Int32} (hT : TR tl pB mT) {p : Nat} (hp : p < 1000) : f_X6_byteAt (nI p) (nI tl) mT = some (bA tl pB p) := by
  have ht := hT.1
  unfold f_X6_byteAt bA
  by_cases c : p < tl
  · rw [if_pos c, if_neg (nI_ge c (by omega)), ck_nI (by omega) (by decide), nI_clamp (by omega), (hT.2 p c).1]
  · rw [if_neg c, if_pos (nI_le (by omega) (by omega))]
theorem in_t {v lo hi : Int32} {lo' hi' : Int64} (e1 : lo'.toInt = lo.toInt) (e2 : hi'.toInt = hi.toInt) (h : lo ≤ v ∧ v ≤ hi) : f_X6_in v.toInt64 lo' hi' = some 1 := p6_inv_t ⟨by rw [e1]; exact i_le.mp h.1, by rw [e2]; exact i_le.mp h.2⟩
theorem in_f {v lo hi : Int32} {lo' hi' : Int64} (e1 : lo'.toInt = lo.toInt) (e2 : hi'.toInt = hi.toInt) (h : ¬ (lo ≤ v ∧ v ≤ hi)) : f_X6_in v.toInt64 lo' hi' = some 0 := p6_inv_f (fun q => h ⟨i_le.mpr (by have := q.1; omega), i_le.mpr (by have := q.2; omega)⟩)
theorem p6_r82 {tl : Nat} {pB mT : Nat → Int32} (hT : TR tl pB mT) (beg srt val flt wr : Int32) : ∀ (d P f : Nat), P + d = tl → d < f → f_X6_reads_82 (nI tl) beg srt val flt wr mT f (nI P) = some (nI (spn 97 122 pB d P), beg, srt, val, flt, wr) := by
  have ht := hT.1
  intro d
  induction d with
  | zero =>
    intro P f h1 h2
    obtain ⟨f, rfl⟩ : ∃ m, f = m + 1 := ⟨f - 1, by omega⟩
    rw [f_X6_reads_82, ob1_s (p6_byte hT (by omega))]
    unfold bA
    rw [if_neg (by omega), ob1_s (in_f (lo := 97) (hi := 122) rfl rfl (by decide)), i00]
    rfl
  | succ d ih =>
    intro P f h1 h2
    obtain ⟨f, rfl⟩ : ∃ m, f = m + 1 := ⟨f - 1, by omega⟩
    rw [f_X6_reads_82, ob1_s (p6_byte hT (by omega)), spn_s, nI_1, ih (P + 1) f (by omega) (by omega)]
    unfold bA
    rw [if_pos (show P < tl by omega)]
    by_cases c : (97 : Int32) ≤ pB P ∧ pB P ≤ 122
    · rw [ob1_s (in_t (lo := 97) (hi := 122) rfl rfl c), i10, if_pos c]
    · rw [ob1_s (in_f (lo := 97) (hi := 122) rfl rfl c), i00, if_neg c]
theorem p6_r8 {tl : Nat} {pB mT : Nat → Int32} (hT : TR tl pB mT) (beg srt val flt wr : Int32) : ∀ (d P f : Nat), P + d = tl → d < f → ∃ f', f_X6_reads_8 (nI tl) beg srt val flt wr mT f (nI P) = f_X6_reads_8 (nI tl) beg srt val flt wr mT (f' + 1) (nI (spn 32 32 pB d P)) := by
  have ht := hT.1
  intro d
  induction d with
  | zero =>
    intro P f h1 h2
    obtain ⟨f, rfl⟩ : ∃ m, f = m + 1 := ⟨f - 1, by omega⟩
    exact ⟨f, rfl⟩
  | succ d ih =>
    intro P f h1 h2
    obtain ⟨f, rfl⟩ : ∃ m, f = m + 1 := ⟨f - 1, by omega⟩
    obtain ⟨f', e⟩ := ih (P + 1) f (by omega) (by omega)
    rw [spn_s]
    by_cases c : (32 : Int32) ≤ pB P ∧ pB P ≤ 32
    · rw [if_pos c]
      have e2 : pB P = 32 := i_eq.mpr (by have := i_le.mp c.1; have := i_le.mp c.2; omega)
      refine ⟨f', ?_⟩
      rw [f_X6_reads_8, ob1_s (p6_byte hT (by omega))]
      unfold bA
      rw [if_pos (show P < tl by omega), if_pos e2, nI_1, e]
    · rw [if_neg c]
      exact ⟨f, rfl⟩
/-- digits: the value of the first two -/
theorem p6_r140 {tl F : Nat} {pB mT : Nat → Int32} (hT : TR tl pB mT) (srt flt wr : Int32) : ∀ (d P f : Nat) (val : Int32), P + d = tl → d < f → F + 2 ≤ P → f_X6_reads_140 (nI tl) (nI F) srt flt wr mT f (nI P) val = (if F + 2 < spn 48 57 pB d P then f_X6_reads_236 0 (nI tl) (nI (spn 48 57 pB d P)) (nI F) srt val flt wr mT else f_X6_reads_236 1 (nI tl) (nI (spn 48 57 pB d P)) (nI F) srt val flt wr mT) := by
  have ht := hT.1
  have fin : ∀ (P f : Nat) (val : Int32), P ≤ tl → F + 2 ≤ P → ¬ ((48 : Int32) ≤ bA tl pB P ∧ bA tl pB P ≤ 57) → f_X6_reads_140 (nI tl) (nI F) srt flt wr mT (f + 1) (nI P) val = (if F + 2 < P then f_X6_reads_236 0 (nI tl) (nI P) (nI F) srt val flt wr mT else f_X6_reads_236 1 (nI tl) (nI P) (nI F) srt val flt wr mT) := fun P f val g0 g1 g2 => by
    rw [f_X6_reads_140, ob1_s (p6_byte hT (by omega)), ob1_s (in_f (lo := 48) (hi := 57) rfl rfl g2), i00, pk_sub (show F ≤ P by omega), show (2 : Int32) = nI 2 from rfl]
    by_cases c : F + 2 < P
    · rw [if_pos c, if_pos (nI_lt (by omega) (by omega))]
    · rw [if_neg c, if_neg (nI_nlt (by omega) (by omega))]
  intro d
  induction d with
  | zero =>
    intro P f val h1 h2 h3
    obtain ⟨f, rfl⟩ : ∃ m, f = m + 1 := ⟨f - 1, by omega⟩
    exact fin P f val (by omega) h3 (by unfold bA; rw [if_neg (by omega)]; decide)
  | succ d ih =>
    intro P f val h1 h2 h3
    obtain ⟨f, rfl⟩ : ∃ m, f = m + 1 := ⟨f - 1, by omega⟩
    rw [spn_s]
    have eb : bA tl pB P = pB P := if_pos (by omega)
    by_cases c : (48 : Int32) ≤ pB P ∧ pB P ≤ 57
    · rw [if_pos c, f_X6_reads_140, ob1_s (p6_byte hT (by omega)), eb, ob1_s (in_t (lo := 48) (hi := 57) rfl rfl c), i10, pk_sub (show F ≤ P by omega), show (2 : Int32) = nI 2 from rfl, if_pos (nI_le (show 2 ≤ P - F by omega) (by omega)), nI_1]
      exact ih (P + 1) f val (by omega) (by omega) (by omega)
    · rw [if_neg c]
      exact fin P f val (by omega) h3 (by rw [eb]; exact c)
theorem p4_numpass {pB : Nat → Int32} {Q F : Nat} (hQ : Q ≤ 160) : ∀ (d P f : Nat) (v : Int32), P + d = Q → d < f → ∃ r, f_X4_numberPassed_7 (nI Q) (nI F) pB f v (nI P) = some r := by
  intro d
  induction d with
  | zero =>
    intro P f v h1 h2
    obtain ⟨f, rfl⟩ : ∃ m, f = m + 1 := ⟨f - 1, by omega⟩
    exact ⟨v, by rw [f_X4_numberPassed_7, if_pos (nI_le (by omega) (by omega))]⟩
  | succ d ih =>
    intro P f v h1 h2
    obtain ⟨f, rfl⟩ : ∃ m, f = m + 1 := ⟨f - 1, by omega⟩
    rw [f_X4_numberPassed_7, if_neg (nI_ge (by omega) (by omega)), ck_nI (by omega) (by decide), nI_1]
    exact ih (P + 1) f _ (by omega) (by omega)
/-- the reference behind a token: what it holds -/
def AtT (K F P' N : Nat) (pos beg srt val flt wr : Int32) : Prop := pos = nI P' ∧ beg = nI F ∧ flt = (if K = 4 then 1 else 0) ∧ (K = 4 → wr = nI F) ∧ (K < 4 → srt = nI K) ∧ (K = 2 → val = nI N)
def Tok (tl : Nat) (pB mT : Nat → Int32) (P K F P' N : Nat) : Prop := P ≤ F ∧ F ≤ P' ∧ P' ≤ tl ∧ (¬ K = 0 → F < P') ∧ K ≤ 4 ∧ N ≤ 99 ∧ (∀ tk fr nm : Int32, ∃ nm', f_X4_toNextToken (nI tl) (nI P) tk fr nm pB = some (nI P', nI K, nI F, nm') ∧ (K = 2 → nm' = nI N)) ∧ (∀ beg srt val wr : Int32, ∃ pos' beg' srt' val' flt' wr', f_X6_reads (nI tl) (nI P) beg srt val 0 wr mT = some (pos', beg', srt', val', flt', wr') ∧ AtT K F P' N pos' beg' srt' val' flt' wr') ∧ (K = 1 → ∀ i, F ≤ i → i < P' → i < tl)
theorem tok_ex {tl : Nat} {pB mT : Nat → Int32} (hT : TR tl pB mT) {P : Nat} (hP : P ≤ tl) : ∃ K F P' N, Tok tl pB mT P K F P' N := by
  have ht := hT.1
  have m1 : (-1 : Int32).toInt = -1 := rfl
  have m4 : (-4 : Int32).toInt = -4 := rfl
  obtain ⟨s1, s2, -, s4⟩ := spn_r 32 32 pB (tl - P) P
  have cs := p4_pass ht 32 32 pB (tl - P) P 1000 (by omega) (by omega)
  have hF : ∃ F, F = spn 32 32 pB (tl - P) P := ⟨_, rfl⟩
  obtain ⟨F, hF⟩ := hF
  rw [← hF] at s1 s2 s4 cs
  have cl : ∀ tk fr nm : Int32, f_X4_toNextToken (nI tl) (nI P) tk fr nm pB = (if nI tl ≤ nI F then f_X4_toNextToken_41 (-4) (nI tl) (nI F) tk (nI F) nm pB else ck (nI F) 160 <| f_X4_toNextToken_41 (pB (nI F).toNatClampNeg) (nI tl) (nI F) tk (nI F) nm pB) := fun tk fr nm => by
    unfold f_X4_toNextToken f_X4_passAll
    rw [ob1_s cs]
  have mo : ∀ beg srt val wr : Int32, ∃ f', f_X6_reads (nI tl) (nI P) beg srt val 0 wr mT = f_X6_reads_8 (nI tl) beg srt val 0 wr mT (f' + 1) (nI F) := fun beg srt val wr => by
    obtain ⟨f', e⟩ := p6_r8 hT beg srt val 0 wr (tl - P) P 1000 (by omega) (by omega)
    rw [← hF] at e
    refine ⟨f', ?_⟩
    unfold f_X6_reads
    rw [if_pos (show (0 : Int32) ≤ 0 by decide), e]
  by_cases c0 : F < tl
  · obtain ⟨b0, b1⟩ := (hT.2 F c0).2
    have eb : bA tl pB F = pB F := if_pos c0
    have n32 : ¬ pB F = 32 := fun e => s4 (by omega) ⟨i_le.mpr (by rw [e]; exact Int.le_refl _), i_le.mpr (by rw [e]; exact Int.le_refl _)⟩
    have cl' : ∀ tk fr nm : Int32, f_X4_toNextToken (nI tl) (nI P) tk fr nm pB = f_X4_toNextToken_41 (pB F) (nI tl) (nI F) tk (nI F) nm pB := fun tk fr nm => by
      rw [cl, if_neg (nI_ge c0 (by omega)), ck_nI (by omega) (by decide), nI_clamp (by omega)]
    have n4 : ¬ pB F = (-4) := fun e => by rw [e] at b0; omega
    have pos : (0 : Int32) ≤ pB F := i_le.mpr b0
    by_cases c1 : (97 : Int32) ≤ pB F ∧ pB F ≤ 122
    · -- a name
      obtain ⟨q1, q2, q3, -⟩ := spn_r 97 122 pB (tl - F) F
      have q0 : F < spn 97 122 pB (tl - F) F := by
        rw [show tl - F = (tl - F - 1) + 1 by omega, spn_s, if_pos c1]
        have := (spn_r 97 122 pB (tl - F - 1) (F + 1)).1
        omega
      refine ⟨1, F, spn 97 122 pB (tl - F) F, 0, s1, q1, by omega, fun _ => q0, by omega, by omega, fun tk fr nm => ⟨nm, ?_, fun e => by omega⟩, fun beg srt val wr => ?_, fun _ i _ hi => by omega⟩
      · rw [cl']
        unfold f_X4_toNextToken_41 f_X4_passAll
        rw [if_neg n4, if_neg (i_nlt.mpr c1.1), if_neg (i_nlt.mpr c1.2), ob1_s (p4_pass ht 97 122 pB (tl - F) F 1000 (by omega) (by omega))]
        rfl
      · obtain ⟨f', e⟩ := mo beg srt val wr
        rw [e, f_X6_reads_8, ob1_s (p6_byte hT (by omega)), ob1_s (p6_byte hT (by omega)), eb, if_neg n32, if_pos pos, ob1_s (in_t (lo := 97) (hi := 122) rfl rfl c1), i10, p6_r82 hT _ _ _ _ _ (tl - F) F 1000 (by omega) (by omega)]
        exact ⟨_, _, _, _, _, _, rfl, rfl, rfl, rfl, fun e => by omega, fun _ => rfl, fun e => by omega⟩
    · have hcl : ∀ tk fr nm : Int32, f_X4_toNextToken (nI tl) (nI P) tk fr nm pB = f_X4_toNextToken_84 (pB F) (nI tl) (nI F) tk (nI F) nm pB := fun tk fr nm => by
        rw [cl']
        unfold f_X4_toNextToken_41
        rw [if_neg n4]
        by_cases d1 : pB F < 97
        · rw [if_pos d1]
        · rw [if_neg d1, if_pos (i_lt.mpr (by
            have a1 := i_le.mp (i_nlt.mp d1)
            have a2 : ¬ (pB F).toInt ≤ (122 : Int32).toInt := fun q => c1 ⟨i_nlt.mp d1, i_le.mpr q⟩
            omega))]
      by_cases c2 : (48 : Int32) ≤ pB F ∧ pB F ≤ 57
      · -- a number
        obtain ⟨q1, q2, q3, q4⟩ := spn_r 48 57 pB (tl - F) F
        have q0 : F < spn 48 57 pB (tl - F) F := by
          rw [show tl - F = (tl - F - 1) + 1 by omega, spn_s, if_pos c2]
          have := (spn_r 48 57 pB (tl - F - 1) (F + 1)).1
          omega
        have cp := p4_pass ht 48 57 pB (tl - F) F 1000 (by omega) (by omega)
        have hQ : ∃ Q, Q = spn 48 57 pB (tl - F) F := ⟨_, rfl⟩
        obtain ⟨Q, hQ⟩ := hQ
        have cl2 : ∀ tk fr nm : Int32, f_X4_toNextToken (nI tl) (nI P) tk fr nm pB = (if Q - F ≤ 2 then f_X4_toNextToken_123 2 (nI tl) (nI Q) tk (nI F) nm pB else f_X4_toNextToken_123 4 (nI tl) (nI Q) tk (nI F) nm pB) := fun tk fr nm => by
          rw [hcl]
          unfold f_X4_toNextToken_84 f_X4_passAll
          rw [if_neg (i_nlt.mpr c2.1), if_neg (i_nlt.mpr c2.2), ob1_s cp, ← hQ, pk_sub (by omega), show (2 : Int32) = nI 2 from rfl]
          by_cases g : Q - F ≤ 2
          · rw [if_pos g, if_pos (nI_le g (by omega))]
          · rw [if_neg g, if_neg (nI_ge (by omega) (by omega))]
        have mo2 : ∀ beg srt val wr : Int32, f_X6_reads (nI tl) (nI P) beg srt val 0 wr mT = f_X6_reads_140 (nI tl) (nI F) 2 0 wr mT 1000 (nI F) 0 := fun beg srt val wr => by
          obtain ⟨f', e⟩ := mo beg srt val wr
          rw [e, f_X6_reads_8, ob1_s (p6_byte hT (by omega)), ob1_s (p6_byte hT (by omega)), eb, if_neg n32, if_pos pos, ob1_s (in_f (lo := 97) (hi := 122) rfl rfl c1), i00, ob1_s (in_t (lo := 48) (hi := 57) rfl rfl c2), i10]
        obtain ⟨x0, x1, x2, ex⟩ := In_nat (hT.2 F c0).2
        have xr : 48 ≤ x0 ∧ x0 ≤ 57 := by
          have a1 := i_le.mp c2.1
          have a2 := i_le.mp c2.2
          rw [ex, nI_toInt x2] at a1 a2
          have : (48 : Int32).toInt = 48 := rfl
          have : (57 : Int32).toInt = 57 := rfl
          omega
        have v1 : (10 * 0 + nI x0 : Int32) - 48 = nI (x0 - 48) := by rw [show (10 * 0 : Int32) = nI 0 from rfl, nI_add, show (48 : Int32) = nI 48 from rfl, pk_sub (by omega), Nat.zero_add]
        have w1 : ((0 * 10 : Int32) + nI x0) - 48 = nI (x0 - 48) := by rw [show (0 * 10 : Int32) = nI 0 from rfl, nI_add, show (48 : Int32) = nI 48 from rfl, pk_sub (by omega), Nat.zero_add]
        have m140 : ∀ wr : Int32, f_X6_reads_140 (nI tl) (nI F) 2 0 wr mT 1000 (nI F) 0 = f_X6_reads_140 (nI tl) (nI F) 2 0 wr mT 999 (nI (F + 1)) (nI (x0 - 48)) := fun wr => by
          rw [f_X6_reads_140, ob1_s (p6_byte hT (by omega)), eb, ob1_s (in_t (lo := 48) (hi := 57) rfl rfl c2), i10, pk_sub (Nat.le_refl F), show (2 : Int32) = nI 2 from rfl, if_neg (nI_ge (show F - F < 2 by omega) (by omega)), ob1_s (p6_byte hT (by omega)), eb, ex, v1, nI_1]
        have s23 : ∀ (P' : Nat) (u val wr : Int32), f_X6_reads_236 1 (nI tl) (nI P') (nI F) 2 val 0 wr mT = some (nI P', nI F, 2, val, 0, wr) := fun P' u val wr => rfl
        have s230 : ∀ (P' : Nat) (val wr : Int32), f_X6_reads_236 0 (nI tl) (nI P') (nI F) 2 val 0 wr mT = some (nI P', nI F, 2, val, 1, nI F) := fun P' val wr => rfl
        by_cases g1 : Q = F + 1
        · -- one digit
          have nb : ¬ ((48 : Int32) ≤ bA tl pB (F + 1) ∧ bA tl pB (F + 1) ≤ 57) := by
            unfold bA
            by_cases t : F + 1 < tl
            · rw [if_pos t]
              have := q4 (by omega)
              rw [← hQ, g1] at this
              exact this
            · rw [if_neg t]; decide
          refine ⟨2, F, Q, x0 - 48, s1, by omega, by omega, fun _ => by omega, by omega, by omega, fun tk fr nm => ⟨nI (x0 - 48), ?_, fun _ => rfl⟩, fun beg srt val wr => ?_, fun e => by omega⟩
          · rw [cl2, if_pos (by omega)]
            unfold f_X4_toNextToken_123 f_X4_numberPassed
            rw [f_X4_numberPassed_7, if_neg (nI_ge (show F < Q by omega) (by omega)), ck_nI (by omega) (by decide), nI_clamp (by omega), ex]
            unfold bd
            dsimp only
            rw [w1, nI_1, f_X4_numberPassed_7, if_pos (nI_le (show Q ≤ F + 1 by omega) (by omega))]
            rfl
          · rw [mo2, m140, f_X6_reads_140, ob1_s (p6_byte hT (by omega)), ob1_s (in_f (lo := 48) (hi := 57) rfl rfl nb), i00, pk_sub (show F ≤ F + 1 by omega), show (2 : Int32) = nI 2 from rfl, if_neg (nI_nlt (show F + 1 - F ≤ 2 by omega) (by omega))]
            exact ⟨_, _, _, _, _, _, rfl, by rw [g1], rfl, rfl, fun e => by omega, fun _ => rfl, fun _ => rfl⟩
        · have hF1 : F + 1 < Q := by omega
          have c3 : (48 : Int32) ≤ pB (F + 1) ∧ pB (F + 1) ≤ 57 := q3 (F + 1) (by omega) (by omega)
          obtain ⟨y0, y1, y2, ey⟩ := In_nat (hT.2 (F + 1) (by omega)).2
          have yr : 48 ≤ y0 ∧ y0 ≤ 57 := by
            have a1 := i_le.mp c3.1
            have a2 := i_le.mp c3.2
            rw [ey, nI_toInt y2] at a1 a2
            have : (48 : Int32).toInt = 48 := rfl
            have : (57 : Int32).toInt = 57 := rfl
            omega
          have eb1 : bA tl pB (F + 1) = pB (F + 1) := if_pos (by omega)
          have v2 : (10 * nI (x0 - 48) + nI y0 : Int32) - 48 = nI (10 * (x0 - 48) + (y0 - 48)) := by rw [show (10 : Int32) = nI 10 from rfl, pk_mul, nI_add, show (48 : Int32) = nI 48 from rfl, pk_sub (by omega), show 10 * (x0 - 48) + y0 - 48 = 10 * (x0 - 48) + (y0 - 48) by omega]
          have w2 : (nI (x0 - 48) * 10 + nI y0 : Int32) - 48 = nI (10 * (x0 - 48) + (y0 - 48)) := by rw [show (10 : Int32) = nI 10 from rfl, pk_mul, nI_add, show (48 : Int32) = nI 48 from rfl, pk_sub (by omega), show (x0 - 48) * 10 + y0 - 48 = 10 * (x0 - 48) + (y0 - 48) by omega]
          have m141 : ∀ wr : Int32, f_X6_reads_140 (nI tl) (nI F) 2 0 wr mT 999 (nI (F + 1)) (nI (x0 - 48)) = f_X6_reads_140 (nI tl) (nI F) 2 0 wr mT 998 (nI (F + 2)) (nI (10 * (x0 - 48) + (y0 - 48))) := fun wr => by
            rw [f_X6_reads_140, ob1_s (p6_byte hT (by omega)), eb1, ob1_s (in_t (lo := 48) (hi := 57) rfl rfl c3), i10, pk_sub (show F ≤ F + 1 by omega), show (2 : Int32) = nI 2 from rfl, if_neg (nI_ge (show F + 1 - F < 2 by omega) (by omega)), ob1_s (p6_byte hT (by omega)), eb1, ey, v2, nI_1]
          have sQ : spn 48 57 pB (tl - (F + 2)) (F + 2) = Q := by
            rw [hQ, show tl - F = (tl - (F + 2)) + 1 + 1 by omega, spn_s, if_pos c2, spn_s, if_pos c3]
          have mr : ∀ beg srt val wr : Int32, f_X6_reads (nI tl) (nI P) beg srt val 0 wr mT = (if F + 2 < Q then f_X6_reads_236 0 (nI tl) (nI Q) (nI F) 2 (nI (10 * (x0 - 48) + (y0 - 48))) 0 wr mT else f_X6_reads_236 1 (nI tl) (nI Q) (nI F) 2 (nI (10 * (x0 - 48) + (y0 - 48))) 0 wr mT) := fun beg srt val wr => by
            rw [mo2, m140, m141, p6_r140 hT 2 0 wr (tl - (F + 2)) (F + 2) 998 _ (by omega) (by omega) (Nat.le_refl _), sQ]
          by_cases g2 : Q = F + 2
          · refine ⟨2, F, Q, 10 * (x0 - 48) + (y0 - 48), s1, by omega, by omega, fun _ => by omega, by omega, by omega, fun tk fr nm => ⟨nI (10 * (x0 - 48) + (y0 - 48)), ?_, fun _ => rfl⟩, fun beg srt val wr => ?_, fun e => by omega⟩
            · rw [cl2, if_pos (by omega)]
              unfold f_X4_toNextToken_123 f_X4_numberPassed
              rw [f_X4_numberPassed_7, if_neg (nI_ge (show F < Q by omega) (by omega)), ck_nI (by omega) (by decide), nI_clamp (by omega), ex]
              unfold bd
              dsimp only
              rw [w1, nI_1, f_X4_numberPassed_7, if_neg (nI_ge (show F + 1 < Q by omega) (by omega)), ck_nI (by omega) (by decide), nI_clamp (by omega), ey]
              unfold bd
              dsimp only
              rw [w2, nI_1, f_X4_numberPassed_7, if_pos (nI_le (show Q ≤ F + 1 + 1 by omega) (by omega))]
              rfl
            · rw [mr, if_neg (by omega)]
              exact ⟨_, _, _, _, _, _, rfl, rfl, rfl, rfl, fun e => by omega, fun _ => rfl, fun _ => rfl⟩
          · refine ⟨4, F, Q, 0, s1, by omega, by omega, fun _ => by omega, by omega, by omega, fun tk fr nm => ?_, fun beg srt val wr => ?_, fun e => by omega⟩
            · rw [cl2, if_neg (by omega)]
              unfold f_X4_toNextToken_123 f_X4_numberPassed
              obtain ⟨r, er⟩ := p4_numpass (pB := pB) (Q := Q) (F := F) (by omega) (Q - F) F 1000 0 (by omega) (by omega)
              rw [ob1_s er]
              exact ⟨_, rfl, fun e => by omega⟩
            · rw [mr, if_pos (by omega)]
              exact ⟨_, _, _, _, _, _, rfl, rfl, rfl, rfl, fun _ => rfl, fun e => by omega, fun e => by omega⟩
      · -- one byte
        have h84 : ∀ tk fr nm : Int32, f_X4_toNextToken (nI tl) (nI P) tk fr nm pB = f_X4_toNextToken_137 (pB F) (nI tl) (nI F) tk (nI F) nm pB := fun tk fr nm => by
          rw [hcl]
          unfold f_X4_toNextToken_84
          by_cases d1 : pB F < 48
          · rw [if_pos d1]
          · rw [if_neg d1, if_pos (i_lt.mpr (by
              have a1 := i_le.mp (i_nlt.mp d1)
              have a2 : ¬ (pB F).toInt ≤ (57 : Int32).toInt := fun q => c2 ⟨i_nlt.mp d1, i_le.mpr q⟩
              omega))]
        have mo3 : ∀ beg srt val wr : Int32, f_X6_reads (nI tl) (nI P) beg srt val 0 wr mT = (if pB F = 59 then f_X6_reads_260 1 (nI tl) (nI F) (nI F) 3 val 0 wr mT else f_X6_reads_260 0 (nI tl) (nI F) (nI F) 3 val 0 wr mT) := fun beg srt val wr => by
          obtain ⟨f', e⟩ := mo beg srt val wr
          rw [e, f_X6_reads_8, ob1_s (p6_byte hT (by omega)), ob1_s (p6_byte hT (by omega)), eb, if_neg n32, if_pos pos, ob1_s (in_f (lo := 97) (hi := 122) rfl rfl c1), i00, ob1_s (in_f (lo := 48) (hi := 57) rfl rfl c2), i00]
        by_cases c3 : pB F = 59
        · refine ⟨3, F, F + 1, 0, s1, by omega, by omega, fun _ => by omega, by omega, by omega, fun tk fr nm => ⟨nm, ?_, fun e => by omega⟩, fun beg srt val wr => ?_, fun e => by omega⟩
          · rw [h84]
            unfold f_X4_toNextToken_137
            rw [if_pos c3, nI_1]
            rfl
          · rw [mo3, if_pos c3]
            unfold f_X6_reads_260
            rw [nI_1]
            exact ⟨_, _, _, _, _, _, rfl, rfl, rfl, rfl, fun e => by omega, fun _ => rfl, fun e => by omega⟩
        · refine ⟨4, F, F + 1, 0, s1, by omega, by omega, fun _ => by omega, by omega, by omega, fun tk fr nm => ⟨nm, ?_, fun e => by omega⟩, fun beg srt val wr => ?_, fun e => by omega⟩
          · rw [h84]
            unfold f_X4_toNextToken_137
            rw [if_neg c3, nI_1]
            rfl
          · rw [mo3, if_neg c3]
            unfold f_X6_reads_260
            rw [nI_1]
            exact ⟨_, _, _, _, _, _, rfl, rfl, rfl, rfl, fun _ => rfl, fun e => by omega, fun e => by omega⟩
  · have hF2 : F = tl := by omega
    refine ⟨0, F, F, 0, s1, Nat.le_refl _, by omega, fun e => absurd rfl e, by omega, by omega, fun tk fr nm => ⟨nm, ?_, fun e => by omega⟩, fun beg srt val wr => ?_, fun e => by omega⟩
    · rw [cl, if_pos (nI_le (by omega) (by omega))]
      rfl
    · obtain ⟨f', e⟩ := mo beg srt val wr
      rw [e, f_X6_reads_8, ob1_s (p6_byte hT (by omega)), ob1_s (p6_byte hT (by omega))]
      unfold bA
      rw [if_neg c0, if_neg (show ¬ (-1 : Int32) = 32 by decide), if_neg (show ¬ (0 : Int32) ≤ -1 by decide)]
      exact ⟨_, _, _, _, _, _, rfl, rfl, rfl, rfl, fun e => by omega, fun _ => rfl, fun e => by omega⟩
