/-! ask -/
def sumr (f : Nat → Nat) : Nat → Nat → Nat
  | 0, _ => 0
  | d + 1, i => f i + sumr f d (i + 1)
theorem sumr_s (f : Nat → Nat) (d i : Nat) : sumr f (d + 1) i = f i + sumr f d (i + 1) := rfl
theorem sumr_cg {f h : Nat → Nat} : ∀ (d i : Nat), (∀ w, i ≤ w → w < i + d → f w = h w) → sumr f d i = sumr h d i := by
  intro d
  induction d with
  | zero => intro i _; rfl
  | succ d ih =>
    intro i e
    rw [sumr_s, sumr_s, e i (Nat.le_refl _) (by omega), ih (i + 1) (fun w h1 h2 => e w (by omega) (by omega))]
theorem sumr_split (f : Nat → Nat) : ∀ (a b i : Nat), sumr f (a + b) i = sumr f a i + sumr f b (i + a) := by
  intro a
  induction a with
  | zero => intro b i; rw [Nat.zero_add]; exact (Nat.zero_add _).symm
  | succ a ih =>
    intro b i
    rw [show a + 1 + b = (a + b) + 1 by omega, sumr_s, sumr_s, ih b (i + 1), show i + 1 + a = i + (a + 1) by omega]
    omega
theorem sumr_0 {f : Nat → Nat} : ∀ (d i : Nat), (∀ w, i ≤ w → w < i + d → f w = 0) → sumr f d i = 0 := by
  intro d
  induction d with
  | zero => intro i _; rfl
  | succ d ih =>
    intro i e
    rw [sumr_s, e i (Nat.le_refl _) (by omega), ih (i + 1) (fun w h1 h2 => e w (by omega) (by omega))]
theorem sumr_le {f : Nat → Nat} (h : ∀ w, f w ≤ 1) : ∀ (d i : Nat), sumr f d i ≤ d := by
  intro d
  induction d with
  | zero => intro i; exact Nat.le_refl 0
  | succ d ih => intro i; rw [sumr_s]; have := h i; have := ih (i + 1); omega
/-- how many from v on are like v -/
def cA (g : Nat → Bool) (κ : Nat → Int32) (v : Nat) : Nat := sumr (fun w => if g v = true ∧ g w = true ∧ κ v = κ w then 1 else 0) (10 - v) v
def cB (κ : Nat → Int32) (p : Nat → Nat) (many a : Nat) : Nat := sumr (fun b => if κ (p a) = κ (p b) then 1 else 0) many 0
theorem comb {g : Nat → Bool} {κ : Nat → Int32} {many : Nat} {p : Nat → Nat} (hp1 : ∀ a, a < many → p a < 10 ∧ g (p a) = true) (hp2 : ∀ v, v < 10 → g v = true → ∃ a, a < many ∧ p a = v) (hp3 : ∀ f : Nat → Nat, sumr (fun b => f (p b)) many 0 = sumr (fun w => if g w = true then f w else 0) 10 0) {A B : Nat} (hA1 : ∀ v, v < 10 → cA g κ v ≤ A) (hA2 : A = 0 ∨ ∃ v, v < 10 ∧ A = cA g κ v) (hB1 : ∀ a, a < many → cB κ p many a ≤ B) (hB2 : B = 0 ∨ ∃ a, a < many ∧ B = cB κ p many a) : A = B := by
  have key : ∀ a, a < many → cB κ p many a = sumr (fun w => if g w = true then (if κ (p a) = κ w then 1 else 0) else 0) 10 0 := fun a _ => hp3 (fun w => if κ (p a) = κ w then 1 else 0)
  have le1 : A ≤ B := by
    rcases hA2 with e | ⟨v, hv, e⟩
    · omega
    · by_cases c : g v = true
      · obtain ⟨a, ha, hpa⟩ := hp2 v hv c
        have h1 := hB1 a ha
        rw [key a ha, hpa, show (10 : Nat) = v + (10 - v) by omega, sumr_split, Nat.zero_add] at h1
        have h2 : cA g κ v = sumr (fun w => if g w = true then (if κ v = κ w then 1 else 0) else 0) (10 - v) v := by
          unfold cA
          refine sumr_cg _ _ (fun w _ _ => ?_)
          by_cases c1 : g w = true
          · by_cases c2 : κ v = κ w
            · rw [if_pos ⟨c, c1, c2⟩, if_pos c1, if_pos c2]
            · rw [if_neg (fun q => c2 q.2.2), if_pos c1, if_neg c2]
          · rw [if_neg (fun q => c1 q.2.1), if_neg c1]
        omega
      · have h2 : cA g κ v = 0 := sumr_0 _ _ (fun w _ _ => if_neg (fun q => c q.1))
        omega
  have le2 : B ≤ A := by
    rcases hB2 with e | ⟨a, ha, e⟩
    · omega
    · obtain ⟨h1, h2⟩ := hp1 a ha
      obtain ⟨u, ⟨u1, u2, u3⟩, u4⟩ := pk_least (fun u => u < 10 ∧ g u = true ∧ κ (p a) = κ u) ⟨p a, h1, h2, rfl⟩
      rw [key a ha, show (10 : Nat) = u + (10 - u) by omega, sumr_split, Nat.zero_add] at e
      have z : sumr (fun w => if g w = true then (if κ (p a) = κ w then 1 else 0) else 0) u 0 = 0 := sumr_0 _ _ (fun w _ hw => by
        by_cases c1 : g w = true
        · by_cases c2 : κ (p a) = κ w
          · exact absurd ⟨by omega, c1, c2⟩ (u4 w (by omega))
          · rw [if_pos c1, if_neg c2]
        · rw [if_neg c1])
      have q : sumr (fun w => if g w = true then (if κ (p a) = κ w then 1 else 0) else 0) (10 - u) u = cA g κ u := by
        unfold cA
        refine sumr_cg _ _ (fun w _ _ => ?_)
        by_cases c1 : g w = true
        · by_cases c2 : κ (p a) = κ w
          · rw [if_pos c1, if_pos c2, if_pos ⟨u2, c1, u3.symm.trans c2⟩]
          · rw [if_pos c1, if_neg c2, if_neg (fun q => c2 (u3.trans q.2.2))]
        · rw [if_neg c1, if_neg (fun q => c1 q.2.1)]
      have := hA1 u u1
      omega
  omega
theorem bsum_bit (g : Nat → Bool) : ∀ i v, v < i → bsum g i / 2 ^ v % 2 = if g v = true then 1 else 0 := by
  intro i
  induction i with
  | zero => intro v h; omega
  | succ i ih =>
    intro v h
    have hl := bsum_lt g i
    by_cases e : v = i
    · subst e
      rw [bsum]
      by_cases c : g v = true
      · rw [if_pos c, if_pos c, Nat.add_div_right _ (Nat.pow_pos (by decide)), Nat.div_eq_of_lt hl]
      · rw [if_neg c, if_neg c, Nat.add_zero, Nat.div_eq_of_lt hl]
    · rw [bsum]
      by_cases c : g i = true
      · rw [if_pos c, ← ih v (by omega), show i = v + (i - v - 1 + 1) by omega, Nat.pow_add, Nat.add_mul_div_left _ _ (Nat.pow_pos (by decide)), Nat.pow_succ, show v + (i - v - 1 + 1) = i by omega]
        omega
      · rw [if_neg c, Nat.add_zero]
        exact ih v (by omega)
theorem shr_c : ∀ v, v < 10 → (((nI v &&& 31) : Int32).toBitVec.smod 32).toNat = v := by decide +kernel
theorem bit1 {b v : Nat} (hb : b < 1024) (hv : v < 10) : ((nI b >>> (nI v &&& 31)) &&& 1 : Int32) = nI (b / 2 ^ v % 2) := by
  rw [pk_shrN (by omega) _ v (shr_c v hv), pk_andN (Nat.lt_of_le_of_lt (Nat.div_le_self _ _) (by omega)) 1 (by decide)]
theorem bit2 {b v w : Nat} (hb : b < 1024) (hv : v < 10) (hw : w < 10) : (((nI b >>> (nI v &&& 31)) &&& (nI b >>> (nI w &&& 31))) &&& 1 : Int32) = 1 ↔ b / 2 ^ v % 2 = 1 ∧ b / 2 ^ w % 2 = 1 := by
  have e : (((nI b >>> (nI v &&& 31)) &&& (nI b >>> (nI w &&& 31))) &&& 1 : Int32) = (nI b >>> (nI v &&& 31)) &&& nI (b / 2 ^ w % 2) := by rw [Int32.and_assoc, bit1 hb hw]
  rw [e]
  have h2 := bit1 hb hv
  rcases Nat.mod_two_eq_zero_or_one (b / 2 ^ w) with c | c
  · rw [c, show nI 0 = (0 : Int32) from rfl, Int32.and_zero]
    exact ⟨fun q => absurd q (by decide), fun q => absurd q.2 (by decide)⟩
  · rw [c, show nI 1 = (1 : Int32) from rfl, h2]
    rcases Nat.mod_two_eq_zero_or_one (b / 2 ^ v) with c2 | c2
    · rw [c2]; exact ⟨fun q => absurd q (by decide), fun q => absurd q.1 (by decide)⟩
    · rw [c2]; exact ⟨fun _ => ⟨rfl, rfl⟩, fun _ => rfl⟩
theorem bsum_1k (g : Nat → Bool) : bsum g 10 < 1024 := bsum_lt g 10
theorem bitg (g : Nat → Bool) {v : Nat} (hv : v < 10) : ((nI (bsum g 10) >>> (nI v &&& 31)) &&& 1 : Int32) = 1 ↔ g v = true := by
  rw [bit1 (bsum_1k g) hv, bsum_bit g 10 v hv]
  by_cases c : g v = true
  · rw [if_pos c]; exact ⟨fun _ => c, fun _ => rfl⟩
  · rw [if_neg c]; exact ⟨fun q => absurd q (by decide), fun q => absurd q c⟩
theorem bitg2 (g : Nat → Bool) {v w : Nat} (hv : v < 10) (hw : w < 10) : (((nI (bsum g 10) >>> (nI v &&& 31)) &&& (nI (bsum g 10) >>> (nI w &&& 31))) &&& 1 : Int32) = 1 ↔ g v = true ∧ g w = true := by
  have one : ∀ x, bsum g 10 / 2 ^ x % 2 = (if g x = true then 1 else 0) → (bsum g 10 / 2 ^ x % 2 = 1 ↔ g x = true) := fun x e => by
    rw [e]
    by_cases c : g x = true
    · rw [if_pos c]; exact ⟨fun _ => c, fun _ => rfl⟩
    · rw [if_neg c]; exact ⟨fun q => absurd q (by decide), fun q => absurd q c⟩
  rw [bit2 (bsum_1k g) hv hw, one v (bsum_bit g 10 v hv), one w (bsum_bit g 10 w hw)]
theorem bitc : ∀ b, b < 1024 → f_J6_bitCount_0f7a4 (nI b) = some (nI (b / 2 ^ 0 % 2 + (b / 2 ^ 1 % 2 + (b / 2 ^ 2 % 2 + (b / 2 ^ 3 % 2 + (b / 2 ^ 4 % 2 + (b / 2 ^ 5 % 2 + (b / 2 ^ 6 % 2 + (b / 2 ^ 7 % 2 + (b / 2 ^ 8 % 2 + (b / 2 ^ 9 % 2 + 0))))))))))) := by decide +kernel
theorem bitcg (g : Nat → Bool) : f_J6_bitCount_0f7a4 (nI (bsum g 10)) = some (nI (sumr (fun w => if g w = true then 1 else 0) 10 0)) := by
  rw [bitc _ (bsum_1k g)]
  have h := bsum_bit g 10
  rw [h 0 (by omega), h 1 (by omega), h 2 (by omega), h 3 (by omega), h 4 (by omega), h 5 (by omega), h 6 (by omega), h 7 (by omega), h 8 (by omega), h 9 (by omega)]
  rfl
/-! the class: how many at most are alike -/
theorem p5_alike_in (g : Nat → Bool) (crM : Nat → Nat → Int32) {n v : Nat} (hn : n ≤ 40) (hv : v < 10) (K : Int32 → Int32 → Option Int32) (v3 : Int32) : ∀ (d w f acc : Nat), w + d = 10 → v ≤ w → d < f → f_X5_mostAlike_19 K (nI (bsum g 10)) (nI n) v3 (nI v) crM f (nI acc) (nI w) = K (if v3 < nI (acc + sumr (fun w => if g v = true ∧ g w = true ∧ crM v n = crM w n then 1 else 0) d w) then nI (acc + sumr (fun w => if g v = true ∧ g w = true ∧ crM v n = crM w n then 1 else 0) d w) else v3) (nI (v + 1)) := by
  intro d
  induction d with
  | zero =>
    intro w f acc h1 h2 h3
    obtain ⟨f, rfl⟩ : ∃ m, f = m + 1 := ⟨f - 1, by omega⟩
    have hw : w = 10 := by omega
    subst hw
    rw [f_X5_mostAlike_19, if_pos (show (9 : Int32) < nI 10 by decide), nI_1]
    rfl
  | succ d ih =>
    intro w f acc h1 h2 h3
    obtain ⟨f, rfl⟩ : ∃ m, f = m + 1 := ⟨f - 1, by omega⟩
    rw [f_X5_mostAlike_19, if_neg (show ¬ (9 : Int32) < nI w from nI_nlt (a := 9) (by omega) (by omega))]
    unfold f_X5_mostAlike_46 bd
    dsimp only
    rw [ck_nI hv (by decide), ck_nI (show n < 41 by omega) (by decide), ck_nI (show w < 10 by omega) (by decide), ck_nI (show n < 41 by omega) (by decide), nI_clamp (show v < 2 ^ 31 by omega), nI_clamp (show w < 2 ^ 31 by omega), nI_clamp (show n < 2 ^ 31 by omega), i10, i00, nI_1, nI_1, show nI acc + 0 = nI (acc + 0) from nI_add acc 0, sumr_s]
    have b2 := bitg2 g hv (show w < 10 by omega)
    by_cases c : g v = true ∧ g w = true
    · rw [if_pos (b2.mpr c)]
      by_cases c2 : crM v n = crM w n
      · rw [if_pos c2, if_pos (show g v = true ∧ g w = true ∧ crM v n = crM w n from ⟨c.1, c.2, c2⟩), ih (w + 1) f (acc + 1) (by omega) (by omega) (by omega), Nat.add_assoc]
      · rw [if_neg c2, if_neg (show ¬ (g v = true ∧ g w = true ∧ crM v n = crM w n) from fun q => c2 q.2.2), ih (w + 1) f (acc + 0) (by omega) (by omega) (by omega), Nat.add_assoc]
    · rw [if_neg (fun q => c (b2.mp q)), if_neg (show ¬ (g v = true ∧ g w = true ∧ crM v n = crM w n) from fun q => c ⟨q.1, q.2.1⟩), ih (w + 1) f (acc + 0) (by omega) (by omega) (by omega), Nat.add_assoc]
theorem p5_alike (g : Nat → Bool) (crM : Nat → Nat → Int32) {n : Nat} (hn : n ≤ 40) : ∀ (d v f most : Nat), v + d = 10 → d < f → most ≤ 10 → ∃ A, f_X5_mostAlike_5 (nI (bsum g 10)) (nI n) crM f (nI most) (nI v) = some (nI A) ∧ A ≤ 10 ∧ most ≤ A ∧ (∀ u, v ≤ u → u < 10 → cA g (fun v => crM v n) u ≤ A) ∧ (A = most ∨ ∃ u, u < 10 ∧ A = cA g (fun v => crM v n) u) := by
  intro d
  induction d with
  | zero =>
    intro v f most h1 h2 h3
    obtain ⟨f, rfl⟩ : ∃ m, f = m + 1 := ⟨f - 1, by omega⟩
    have hw : v = 10 := by omega
    subst hw
    rw [f_X5_mostAlike_5, if_pos (show (9 : Int32) < nI 10 by decide)]
    exact ⟨most, rfl, h3, Nat.le_refl _, fun u _ _ => by omega, Or.inl rfl⟩
  | succ d ih =>
    intro v f most h1 h2 h3
    obtain ⟨f, rfl⟩ : ∃ m, f = m + 1 := ⟨f - 1, by omega⟩
    have e := p5_alike_in g crM hn (show v < 10 by omega) (f_X5_mostAlike_5 (nI (bsum g 10)) (nI n) crM f) (nI most) (10 - v) v 1000 0 (by omega) (Nat.le_refl _) (by omega)
    have ce : sumr (fun w => if g v = true ∧ g w = true ∧ crM v n = crM w n then 1 else 0) (10 - v) v = cA g (fun v => crM v n) v := rfl
    have cl : cA g (fun v => crM v n) v ≤ 10 - v := sumr_le (fun w => by split <;> omega) _ _
    rw [Nat.zero_add, ce] at e
    rw [f_X5_mostAlike_5, if_neg (show ¬ (9 : Int32) < nI v from nI_nlt (a := 9) (by omega) (by omega)), show (0 : Int32) = nI 0 from rfl, e]
    by_cases c : most < cA g (fun v => crM v n) v
    · rw [if_pos (nI_lt c (by omega))]
      obtain ⟨A, e1, e2, e3, e4, e5⟩ := ih (v + 1) f (cA g (fun v => crM v n) v) (by omega) (by omega) (by omega)
      refine ⟨A, e1, e2, by omega, fun u g1 g2 => ?_, ?_⟩
      · by_cases q : u = v
        · subst q; exact e3
        · exact e4 u (by omega) g2
      · rcases e5 with q | q
        · exact Or.inr ⟨v, by omega, q⟩
        · exact Or.inr q
    · rw [if_neg (nI_nlt (by omega) (by omega))]
      obtain ⟨A, e1, e2, e3, e4, e5⟩ := ih (v + 1) f most (by omega) (by omega) (by omega)
      refine ⟨A, e1, e2, e3, fun u g1 g2 => ?_, e5⟩
      by_cases q : u = v
      · subst q; omega
      · exact e4 u (by omega) g2
/-! the reference: likewise -/
theorem p6_ask126 {many n a : Nat} (hm : many ≤ 10) (hn : n ≤ 40) (ha : a < many) {p : Nat → Nat} {κ byl : Nat → Int32} (hb : ∀ a, a < many → byl (41 * a + n) = κ (p a)) (K101 : Int32 → Int32 → Int32 → Option (Int32 × Int32 × Int32 × Int32 × Int32 × Int32 × (Nat → Int32) × (Nat → Int32) × (Nat → Int32))) (K114 : Int32 → Int32 → Option (Int32 × Int32 × Int32 × Int32 × Int32 × Int32 × (Nat → Int32) × (Nat → Int32) × (Nat → Int32))) (v2 v4 v5 v7 br dm sm wm is : Int32) (mSt mNow chg : Nat → Int32) : ∀ (d b f acc : Nat), b + d = many → d < f → f_X6_ask_126 K101 K114 v2 (nI many) v4 v5 (nI n) v7 (nI a) br dm sm wm is mSt mNow chg byl f (nI acc) (nI b) = (if nI (acc + sumr (fun b => if κ (p a) = κ (p b) then 1 else 0) d b) ≤ v7 then K114 v7 (nI (a + 1)) else K114 (nI (acc + sumr (fun b => if κ (p a) = κ (p b) then 1 else 0) d b)) (nI (a + 1))) := by
  intro d
  induction d with
  | zero =>
    intro b f acc h1 h2
    obtain ⟨f, rfl⟩ : ∃ m, f = m + 1 := ⟨f - 1, by omega⟩
    rw [f_X6_ask_126, if_pos (nI_le (by omega) (by omega)), nI_1]
    rfl
  | succ d ih =>
    intro b f acc h1 h2
    obtain ⟨f, rfl⟩ : ∃ m, f = m + 1 := ⟨f - 1, by omega⟩
    rw [f_X6_ask_126, if_neg (nI_ge (by omega) (by omega)), show (41 : Int32) = nI 41 from rfl, pk_mul, pk_mul, nI_add, nI_add, ck_nI (by omega) (by decide), ck_nI (by omega) (by decide), nI_clamp (by omega), nI_clamp (by omega), hb a ha, hb b (by omega), sumr_s]
    unfold f_X6_ask_168 bd
    dsimp only
    rw [ob1_s (p6_flagv (Or.inr rfl)), ob1_s (p6_flagv (Or.inl rfl)), nI_1, nI_1, show nI acc + 0 = nI (acc + 0) from nI_add acc 0]
    by_cases c : κ (p a) = κ (p b)
    · rw [if_pos c, if_pos c, ih (b + 1) f (acc + 1) (by omega) (by omega), Nat.add_assoc]
    · rw [if_neg c, if_neg c, ih (b + 1) f (acc + 0) (by omega) (by omega), Nat.add_assoc]
theorem p6_ask114 {many n : Nat} (hm : many ≤ 10) (hn : n ≤ 40) {p : Nat → Nat} {κ byl : Nat → Int32} (hb : ∀ a, a < many → byl (41 * a + n) = κ (p a)) (K101 : Int32 → Int32 → Int32 → Option (Int32 × Int32 × Int32 × Int32 × Int32 × Int32 × (Nat → Int32) × (Nat → Int32) × (Nat → Int32))) (v2 v4 v5 br dm sm wm is : Int32) (mSt mNow chg : Nat → Int32) : ∀ (d a f w : Nat), a + d = many → d < f → w ≤ 10 → ∃ W, f_X6_ask_114 K101 v2 (nI many) v4 v5 (nI n) br dm sm wm is mSt mNow chg byl f (nI w) (nI a) = (if v4 ≤ nI W then K101 v4 v5 (nI (n + 1)) else K101 (nI W) (nI n) (nI (n + 1))) ∧ W ≤ 10 ∧ w ≤ W ∧ (∀ a', a ≤ a' → a' < many → cB κ p many a' ≤ W) ∧ (W = w ∨ ∃ a', a' < many ∧ W = cB κ p many a') := by
  intro d
  induction d with
  | zero =>
    intro a f w h1 h2 h3
    obtain ⟨f, rfl⟩ : ∃ m, f = m + 1 := ⟨f - 1, by omega⟩
    rw [f_X6_ask_114, if_pos (nI_le (by omega) (by omega)), nI_1]
    exact ⟨w, rfl, h3, Nat.le_refl _, fun a' _ _ => by omega, Or.inl rfl⟩
  | succ d ih =>
    intro a f w h1 h2 h3
    obtain ⟨f, rfl⟩ : ∃ m, f = m + 1 := ⟨f - 1, by omega⟩
    have e := p6_ask126 hm hn (show a < many by omega) hb K101 (f_X6_ask_114 K101 v2 (nI many) v4 v5 (nI n) br dm sm wm is mSt mNow chg byl f) v2 v4 v5 (nI w) br dm sm wm is mSt mNow chg many 0 1000 0 (by omega) (by omega)
    have ce : sumr (fun b => if κ (p a) = κ (p b) then 1 else 0) many 0 = cB κ p many a := rfl
    have cl : cB κ p many a ≤ many := sumr_le (fun w => by split <;> omega) _ _
    rw [Nat.zero_add, ce] at e
    rw [f_X6_ask_114, if_neg (nI_ge (by omega) (by omega)), show (0 : Int32) = nI 0 from rfl, e]
    by_cases c : cB κ p many a ≤ w
    · rw [if_pos (nI_le c (by omega))]
      obtain ⟨W, e1, e2, e3, e4, e5⟩ := ih (a + 1) f w (by omega) (by omega) h3
      refine ⟨W, e1, e2, e3, fun a' g1 g2 => ?_, e5⟩
      by_cases q : a' = a
      · subst q; omega
      · exact e4 a' (by omega) g2
    · rw [if_neg (nI_ge (by omega) (by omega))]
      obtain ⟨W, e1, e2, e3, e4, e5⟩ := ih (a + 1) f (cB κ p many a) (by omega) (by omega) (by omega)
      refine ⟨W, e1, e2, by omega, fun a' g1 g2 => ?_, ?_⟩
      · by_cases q : a' = a
        · subst q; exact e3
        · exact e4 a' (by omega) g2
      · rcases e5 with q | q
        · exact Or.inr ⟨a, by omega, q⟩
        · exact Or.inr q
/-- both look for the hour -/
theorem ask_hours {g : Nat → Bool} {crM : Nat → Nat → Int32} {many : Nat} (hm : many ≤ 10) {p : Nat → Nat} {byl : Nat → Int32} (hp1 : ∀ a, a < many → p a < 10 ∧ g (p a) = true) (hp2 : ∀ v, v < 10 → g v = true → ∃ a, a < many ∧ p a = v) (hp3 : ∀ f : Nat → Nat, sumr (fun b => f (p b)) many 0 = sumr (fun w => if g w = true then f w else 0) 10 0) (hb : ∀ n, n ≤ 40 → ∀ a, a < many → byl (41 * a + n) = crM (p a) n) (v2 n1 n2 n3 n4 n5 n6 : Int32) (n7 n8 n9 n10 n11 : Nat → Int32) (tCells tSigns tHour tStops tWaste tDone tBridged : Int32) (tKind tRoom tCharge tLeak tPlan : Nat → Int32) (s1 : Int32) (s2 s3 s4 : Nat → Int32) (br dm sm wm is : Int32) (mSt mNow chg : Nat → Int32) : ∀ (d n f f' : Nat) (best few : Int32), n + d = 41 → d < f → d < f' → ∃ r o o', f_X5_ask_42 v2 (nI (bsum g 10)) n1 n2 n3 n4 n5 n6 n7 n8 n9 n10 n11 tCells tSigns tHour tStops tWaste tDone tBridged tKind tRoom tCharge tLeak tPlan s1 s2 s3 s4 crM f best few (nI n) = some (r, o) ∧ f_X6_ask_101 v2 (nI many) br dm sm wm is mSt mNow chg byl f' few best (nI n) = some (r, o') := by
  intro d
  induction d with
  | zero =>
    intro n f f' best few h1 h2 h3
    obtain ⟨f, rfl⟩ : ∃ m, f = m + 1 := ⟨f - 1, by omega⟩
    obtain ⟨f', rfl⟩ : ∃ m, f' = m + 1 := ⟨f' - 1, by omega⟩
    have hn : n = 41 := by omega
    subst hn
    rw [f_X5_ask_42, f_X6_ask_101, if_pos (show (40 : Int32) < nI 41 by decide), if_pos (show (40 : Int32) < nI 41 by decide)]
    by_cases c : best = (-4)
    · rw [if_pos c, if_pos c]; exact ⟨_, _, _, rfl, rfl⟩
    · rw [if_neg c, if_neg c]
      by_cases c2 : v2 = 0
      · rw [if_pos c2, if_pos c2]; exact ⟨_, _, _, rfl, rfl⟩
      · rw [if_neg c2, if_neg c2]; exact ⟨_, _, _, rfl, rfl⟩
  | succ d ih =>
    intro n f f' best few h1 h2 h3
    obtain ⟨f, rfl⟩ : ∃ m, f = m + 1 := ⟨f - 1, by omega⟩
    obtain ⟨f', rfl⟩ : ∃ m, f' = m + 1 := ⟨f' - 1, by omega⟩
    obtain ⟨A, a1, a2, -, a4, a5⟩ := p5_alike g crM (show n ≤ 40 by omega) 10 0 1000 0 (by omega) (by omega) (by omega)
    obtain ⟨W, w1, w2, -, w4, w5⟩ := p6_ask114 hm (show n ≤ 40 by omega) (κ := fun v => crM v n) (p := p) (hb n (by omega)) (f_X6_ask_101 v2 (nI many) br dm sm wm is mSt mNow chg byl f') v2 few best br dm sm wm is mSt mNow chg many 0 1000 0 (by omega) (by omega) (by omega)
    have eq : A = W := comb hp1 hp2 hp3 (fun v hv => a4 v (Nat.zero_le _) hv) a5 (fun a ha => w4 a (Nat.zero_le _) ha) w5
    subst eq
    have a1' : f_X5_mostAlike (nI (bsum g 10)) (nI n) crM = some (nI A) := a1
    rw [f_X5_ask_42, f_X6_ask_101, if_neg (show ¬ (40 : Int32) < nI n from nI_nlt (a := 40) (by omega) (by omega)), if_neg (show ¬ (40 : Int32) < nI n from nI_nlt (a := 40) (by omega) (by omega)), ob1_s a1', show (0 : Int32) = nI 0 from rfl, w1, nI_1]
    by_cases c : few ≤ nI A
    · rw [if_pos c, if_pos c]
      exact ih (n + 1) f f' best few (by omega) (by omega) (by omega)
    · rw [if_neg c, if_neg c]
      exact ih (n + 1) f f' (nI n) (nI A) (by omega) (by omega) (by omega)
