/-! names -/
def wp4 (F P : Nat) (b : Nat → Int32) (c0 c1 c2 c3 : Int32) : Prop := P = F + 4 ∧ b F = c0 ∧ b (F + 1) = c1 ∧ b (F + 2) = c2 ∧ b (F + 3) = c3
def wp5 (F P : Nat) (b : Nat → Int32) (c0 c1 c2 c3 c4 : Int32) : Prop := P = F + 5 ∧ b F = c0 ∧ b (F + 1) = c1 ∧ b (F + 2) = c2 ∧ b (F + 3) = c3 ∧ b (F + 4) = c4
theorem nm_step {w i F : Nat} (h : i < lenS w) (hl : lenS w ≤ 5) (hF : F + i < 160) (pl : Int32) (b : Nat → Int32) (n : Nat) : f_X4_nameIs_20 w pl (nI F) b (n + 1) (nI i) = if b (F + i) = chS w i then f_X4_nameIs_20 w pl (nI F) b n (nI (i + 1)) else some 0 := by
  rw [f_X4_nameIs_20, if_neg (nI_ge h (by omega)), nI_add, ck_nI hF (by decide), ck_nI h (by omega), nI_clamp (by omega), nI_clamp (by omega), nI_1]
theorem nm_end {w i F : Nat} (h : i = lenS w) (hl : lenS w ≤ 5) (pl : Int32) (b : Nat → Int32) (n : Nat) : f_X4_nameIs_20 w pl (nI F) b (n + 1) (nI i) = some 1 := by
  rw [f_X4_nameIs_20, if_pos (nI_le (by omega) (by omega))]
theorem nm5 {w F P : Nat} (hw : lenS w = 5) (hFP : F ≤ P) (hP : P ≤ 160) (b : Nat → Int32) : (wp5 F P b (chS w 0) (chS w 1) (chS w 2) (chS w 3) (chS w 4) → f_X4_nameIs w (nI P) (nI F) b = some 1) ∧ (¬ wp5 F P b (chS w 0) (chS w 1) (chS w 2) (chS w 3) (chS w 4) → f_X4_nameIs w (nI P) (nI F) b = some 0) := by
  unfold f_X4_nameIs
  rw [pk_sub hFP]
  by_cases c : P = F + 5
  · rw [if_pos (show nI (P - F) = nI (lenS w) by rw [hw, show P - F = 5 by omega]), show (0 : Int32) = nI 0 from rfl, nm_step (by omega) (by omega) (by omega), nm_step (by omega) (by omega) (by omega), nm_step (by omega) (by omega) (by omega), nm_step (by omega) (by omega) (by omega), nm_step (by omega) (by omega) (by omega), nm_end (by omega) (by omega)]
    refine ⟨fun h => ?_, fun h => ?_⟩
    · obtain ⟨-, e0, e1, e2, e3, e4⟩ := h
      rw [if_pos (show b (F + 0) = chS w 0 from e0), if_pos e1, if_pos e2, if_pos e3, if_pos e4]
    · by_cases e0 : b (F + 0) = chS w 0
      · rw [if_pos e0]
        by_cases e1 : b (F + (0 + 1)) = chS w (0 + 1)
        · rw [if_pos e1]
          by_cases e2 : b (F + (0 + 1 + 1)) = chS w (0 + 1 + 1)
          · rw [if_pos e2]
            by_cases e3 : b (F + (0 + 1 + 1 + 1)) = chS w (0 + 1 + 1 + 1)
            · rw [if_pos e3]
              by_cases e4 : b (F + (0 + 1 + 1 + 1 + 1)) = chS w (0 + 1 + 1 + 1 + 1)
              · exact absurd ⟨c, e0, e1, e2, e3, e4⟩ h
              · rw [if_neg e4]; rfl
            · rw [if_neg e3]; rfl
          · rw [if_neg e2]; rfl
        · rw [if_neg e1]; rfl
      · rw [if_neg e0]; rfl
  · rw [if_neg (show ¬ nI (P - F) = nI (lenS w) from nI_ne_of (by omega) (by omega) (by omega))]
    exact ⟨fun h => absurd h.1 c, fun _ => rfl⟩
theorem nm4 {w F P : Nat} (hw : lenS w = 4) (hFP : F ≤ P) (hP : P ≤ 160) (b : Nat → Int32) : (wp4 F P b (chS w 0) (chS w 1) (chS w 2) (chS w 3) → f_X4_nameIs w (nI P) (nI F) b = some 1) ∧ (¬ wp4 F P b (chS w 0) (chS w 1) (chS w 2) (chS w 3) → f_X4_nameIs w (nI P) (nI F) b = some 0) := by
  unfold f_X4_nameIs
  rw [pk_sub hFP]
  by_cases c : P = F + 4
  · rw [if_pos (show nI (P - F) = nI (lenS w) by rw [hw, show P - F = 4 by omega]), show (0 : Int32) = nI 0 from rfl, nm_step (by omega) (by omega) (by omega), nm_step (by omega) (by omega) (by omega), nm_step (by omega) (by omega) (by omega), nm_step (by omega) (by omega) (by omega), nm_end (by omega) (by omega)]
    refine ⟨fun h => ?_, fun h => ?_⟩
    · obtain ⟨-, e0, e1, e2, e3⟩ := h
      rw [if_pos (show b (F + 0) = chS w 0 from e0), if_pos e1, if_pos e2, if_pos e3]
    · by_cases e0 : b (F + 0) = chS w 0
      · rw [if_pos e0]
        by_cases e1 : b (F + (0 + 1)) = chS w (0 + 1)
        · rw [if_pos e1]
          by_cases e2 : b (F + (0 + 1 + 1)) = chS w (0 + 1 + 1)
          · rw [if_pos e2]
            by_cases e3 : b (F + (0 + 1 + 1 + 1)) = chS w (0 + 1 + 1 + 1)
            · exact absurd ⟨c, e0, e1, e2, e3⟩ h
            · rw [if_neg e3]; rfl
          · rw [if_neg e2]; rfl
        · rw [if_neg e1]; rfl
      · rw [if_neg e0]; rfl
  · rw [if_neg (show ¬ nI (P - F) = nI (lenS w) from nI_ne_of (by omega) (by omega) (by omega))]
    exact ⟨fun h => absurd h.1 c, fun _ => rfl⟩
theorem p6_by {tl : Nat} {pB mT : Nat → Int32} (hT : TR tl pB mT) {F k : Nat} (h : F + k < tl) : f_X6_byteAt (nI F + nI k) (nI tl) mT = some (pB (F + k)) := by
  have ht := hT.1
  rw [nI_add, p6_byte hT (by omega)]
  unfold bA
  rw [if_pos h]
theorem is4 {tl : Nat} {pB mT : Nat → Int32} (hT : TR tl pB mT) {F P : Nat} (hFP : F ≤ P) (hP : P ≤ tl) (n : Nat) (hn : 4 ≤ n) (hn5 : n ≤ 5) (c0 c1 c2 c3 : Int32) : ((P = F + n ∧ pB F = c0 ∧ pB (F + 1) = c1 ∧ pB (F + 2) = c2 ∧ pB (F + 3) = c3) → f_X6_is (nI n) c0 c1 c2 c3 (nI tl) (nI P) (nI F) mT = some 1) ∧ (¬ (P = F + n ∧ pB F = c0 ∧ pB (F + 1) = c1 ∧ pB (F + 2) = c2 ∧ pB (F + 3) = c3) → f_X6_is (nI n) c0 c1 c2 c3 (nI tl) (nI P) (nI F) mT = some 0) := by
  have ht := hT.1
  unfold f_X6_is
  rw [pk_sub hFP]
  by_cases c : P = F + n
  · have y0 : f_X6_byteAt (nI F) (nI tl) mT = some (pB F) := by rw [p6_byte hT (by omega)]; unfold bA; rw [if_pos (by omega)]
    have y1 : f_X6_byteAt (nI F + 1) (nI tl) mT = some (pB (F + 1)) := p6_by hT (F := F) (k := 1) (by omega)
    have y2 : f_X6_byteAt (nI F + 2) (nI tl) mT = some (pB (F + 2)) := p6_by hT (F := F) (k := 2) (by omega)
    have y3 : f_X6_byteAt (nI F + 3) (nI tl) mT = some (pB (F + 3)) := p6_by hT (F := F) (k := 3) (by omega)
    rw [if_pos (show nI (P - F) = nI n by rw [show P - F = n by omega]), ob1_s y0, ob1_s y1, ob1_s y2, ob1_s y3]
    refine ⟨fun h => ?_, fun h => ?_⟩
    · obtain ⟨-, e0, e1, e2, e3⟩ := h
      rw [if_pos e0, if_pos e1, if_pos e2, if_pos e3]
    · by_cases e0 : pB F = c0
      · rw [if_pos e0]
        by_cases e1 : pB (F + 1) = c1
        · rw [if_pos e1]
          by_cases e2 : pB (F + 2) = c2
          · rw [if_pos e2]
            by_cases e3 : pB (F + 3) = c3
            · exact absurd ⟨c, e0, e1, e2, e3⟩ h
            · rw [if_neg e3]
          · rw [if_neg e2]
        · rw [if_neg e1]
      · rw [if_neg e0]
  · rw [if_neg (show ¬ nI (P - F) = nI n from nI_ne_of (by omega) (by omega) (by omega))]
    exact ⟨fun h => absurd h.1 c, fun _ => rfl⟩
theorem is5 {tl : Nat} {pB mT : Nat → Int32} (hT : TR tl pB mT) {F P : Nat} (hFP : F ≤ P) (hP : P ≤ tl) (c0 c1 c2 c3 c4 : Int32) (X Y : Option Int32) : (wp5 F P pB c0 c1 c2 c3 c4 → (ob1 (f_X6_is 5 c0 c1 c2 c3 (nI tl) (nI P) (nI F) mT) fun a => if a = 0 then Y else ob1 (f_X6_byteAt (nI F + 4) (nI tl) mT) fun a => if a = c4 then X else Y) = X) ∧ (¬ wp5 F P pB c0 c1 c2 c3 c4 → (ob1 (f_X6_is 5 c0 c1 c2 c3 (nI tl) (nI P) (nI F) mT) fun a => if a = 0 then Y else ob1 (f_X6_byteAt (nI F + 4) (nI tl) mT) fun a => if a = c4 then X else Y) = Y) := by
  obtain ⟨h1, h2⟩ := is4 hT hFP hP 5 (by omega) (by omega) c0 c1 c2 c3
  by_cases c : P = F + 5 ∧ pB F = c0 ∧ pB (F + 1) = c1 ∧ pB (F + 2) = c2 ∧ pB (F + 3) = c3
  · rw [show (5 : Int32) = nI 5 from rfl, ob1_s (h1 c), i10, show (4 : Int32) = nI 4 from rfl, ob1_s (p6_by hT (k := 4) (by omega))]
    obtain ⟨d0, d1, d2, d3, d4⟩ := c
    refine ⟨fun h => if_pos h.2.2.2.2.2, fun h => if_neg (fun q => h ⟨d0, d1, d2, d3, d4, q⟩)⟩
  · rw [show (5 : Int32) = nI 5 from rfl, ob1_s (h2 c), i00]
    exact ⟨fun h => absurd ⟨h.1, h.2.1, h.2.2.1, h.2.2.2.1, h.2.2.2.2.1⟩ c, fun _ => rfl⟩
/-- what a name is: a kind, the plan, or nothing -/
theorem name_rel {tl : Nat} {pB mT : Nat → Int32} (hT : TR tl pB mT) {F P : Nat} (hFP : F ≤ P) (hP : P ≤ tl) : (f_X6_lineNow (nI tl) (nI P) (nI F) mT = some 4 ∧ f_X4_nameIs 0 (nI P) (nI F) pB = some 1) ∨ (f_X6_lineNow (nI tl) (nI P) (nI F) mT = some (-4) ∧ f_X4_nameIs 0 (nI P) (nI F) pB = some 0 ∧ f_X4_kindNamed (nI P) (nI F) pB = some (-4)) ∨ ∃ k : Nat, k < 4 ∧ f_X6_lineNow (nI tl) (nI P) (nI F) mT = some (nI k) ∧ f_X4_nameIs 0 (nI P) (nI F) pB = some 0 ∧ f_X4_kindNamed (nI P) (nI F) pB = some (nI k) := by
  have ht := hT.1
  obtain ⟨a1, a0⟩ := nm5 (w := 1) rfl hFP (by omega) pB
  obtain ⟨b1, b0⟩ := nm5 (w := 2) rfl hFP (by omega) pB
  obtain ⟨c1, c0⟩ := nm5 (w := 3) rfl hFP (by omega) pB
  obtain ⟨d1, d0⟩ := nm4 (w := 4) rfl hFP (by omega) pB
  obtain ⟨e1, e0⟩ := nm4 (w := 0) rfl hFP (by omega) pB
  obtain ⟨f1, f0⟩ := is5 hT hFP hP 112 108 97 105 110 (some 0) (f_X6_lineNow_33 (nI tl) (nI P) (nI F) mT)
  obtain ⟨g1, g0⟩ := is5 hT hFP hP 98 108 101 101 100 (some 1) (f_X6_lineNow_66 (nI tl) (nI P) (nI F) mT)
  obtain ⟨h1, h0⟩ := is5 hT hFP hP 115 104 97 114 101 (some 2) (f_X6_lineNow_99 (nI tl) (nI P) (nI F) mT)
  obtain ⟨i1, i0⟩ := is4 hT hFP hP 4 (by omega) (by omega) 112 117 109 112
  obtain ⟨j1, j0⟩ := is4 hT hFP hP 4 (by omega) (by omega) 112 108 97 110
  unfold f_X4_kindNamed
  by_cases w0 : wp4 F P pB 112 108 97 110
  · have n1 : ¬ wp5 F P pB 112 108 97 105 110 := fun q => by have := q.1; have := w0.1; omega
    have n2 : ¬ wp5 F P pB 98 108 101 101 100 := fun q => by have := q.1; have := w0.1; omega
    have n3 : ¬ wp5 F P pB 115 104 97 114 101 := fun q => by have := q.1; have := w0.1; omega
    have n4 : ¬ wp4 F P pB 112 117 109 112 := fun q => by have := w0.2.2.1.symm.trans q.2.2.1; exact absurd this (by decide)
    refine Or.inl ⟨?_, e1 w0⟩
    unfold f_X6_lineNow
    rw [f0 n1]
    unfold f_X6_lineNow_33
    rw [g0 n2]
    unfold f_X6_lineNow_66
    rw [h0 n3]
    unfold f_X6_lineNow_99
    rw [show (4 : Int32) = nI 4 from rfl, ob1_s (i0 n4), ob1_s (j1 w0), i00, i10]
  · refine Or.inr ?_
    by_cases w1 : wp5 F P pB 112 108 97 105 110
    · refine Or.inr ⟨0, by omega, ?_, e0 w0, ?_⟩
      · unfold f_X6_lineNow
        rw [f1 w1]
        rfl
      · rw [ob1_s (a1 w1), i10]
        rfl
    rw [ob1_s (a0 w1), i00]
    unfold f_X6_lineNow
    rw [f0 w1]
    unfold f_X6_lineNow_33
    by_cases w2 : wp5 F P pB 98 108 101 101 100
    · refine Or.inr ⟨1, by omega, ?_, e0 w0, ?_⟩
      · rw [g1 w2]
        rfl
      · rw [ob1_s (b1 w2), i10]
        rfl
    rw [ob1_s (b0 w2), i00, g0 w2]
    unfold f_X6_lineNow_66
    by_cases w3 : wp5 F P pB 115 104 97 114 101
    · refine Or.inr ⟨2, by omega, ?_, e0 w0, ?_⟩
      · rw [h1 w3]
        rfl
      · rw [ob1_s (c1 w3), i10]
        rfl
    rw [ob1_s (c0 w3), i00, h0 w3]
    unfold f_X6_lineNow_99
    by_cases w4 : wp4 F P pB 112 117 109 112
    · refine Or.inr ⟨3, by omega, ?_, e0 w0, ?_⟩
      · rw [show (4 : Int32) = nI 4 from rfl, ob1_s (i1 w4), i10]
        rfl
      · rw [ob1_s (d1 w4), i10]
        rfl
    rw [ob1_s (d0 w4), i00, show (4 : Int32) = nI 4 from rfl, ob1_s (i0 w4), i00, ob1_s (j0 w0), i00]
    exact Or.inl ⟨rfl, e0 w0, rfl⟩
