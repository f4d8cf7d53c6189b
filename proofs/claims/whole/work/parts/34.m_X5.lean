-- X5_read
theorem fl_X5_read_44 : Cond.fieldLink RX5 44 "CellsInRow" "sheets" "[LCellsInRow$Sheet;" ∈ wsX5_read := by decide +kernel
theorem iw_X5_read_X5 : ∀ w ∈ wsX50, w ∈ wsX5_read := by decide +kernel
theorem fl_X5_read_53 : Cond.fieldLink RX5 53 "CellsInRow" "latestTorn" "I" ∈ wsX5_read := by decide +kernel
theorem fl_X5_read_19 : Cond.fieldLink RX5 19 "CellsInRow" "now" "LCellsInRow$Row;" ∈ wsX5_read := by decide +kernel
theorem fl_X5_read_131 : Cond.fieldLink RX5 131 "CellsInRow$Row" "plan" "[I" ∈ wsX5_read := by decide +kernel
theorem iw_X5_read_X1 : ∀ w ∈ wsX10, w ∈ wsX5_read := by decide +kernel
theorem fl_X5_read_245 : Cond.fieldLink RX5 245 "CellsInRow$Sheet" "places" "[I" ∈ wsX5_read := by decide +kernel
theorem iw_X5_read_X3 : ∀ w ∈ wsX30, w ∈ wsX5_read := by decide +kernel
set_option maxHeartbeats 4000000 in
set_option maxRecDepth 100000 in
theorem t_X5_read_111 {G : jX} {D : va_G} {x0 p0 n0 o0 t0 s0 im0 sh0 cr0 h0 hPlacesA nKindA nRoomA nChargeA nLeakA nPlanA : Nat} {shF : Nat → Option Nat} {v1 : Int32} {v2 : Int32} {v3 : Int32} {v4 : Int32} {v6 : Int32} {xLatestTorn : Int32} {hThere : Int32} {hLane : Int32} {hLength : Int32} {hPlaces : Nat → Int32} {nCells : Int32} {nSigns : Int32} {nHour : Int32} {nStops : Int32} {nWaste : Int32} {nDone : Int32} {nBridged : Int32} {nKind : Nat → Int32} {nRoom : Nat → Int32} {nCharge : Nat → Int32} {nLeak : Nat → Int32} {oR : Int32} {oXLatestTorn : Int32} {oNPlan : Nat → Int32} (C : KC G D cX5_read RX5 wsX5_read ({ frames := 2, cells := 0, slots := 0, locals := 36 } : Room) 9 (some .int) (some (.int oR)) [(x0, .inr (5, [.ref p0, .ref n0, .ref o0, .ref t0, .ref s0, .ref im0, .ref sh0, .ref cr0, .int oXLatestTorn])), (sh0, .inl (D.1 10, 4, .inr (.inr (.inr (.inr shF))))), (h0, .inr (3, [.int hThere, .int hLane, .int hLength, .ref hPlacesA])), (hPlacesA, .inl (D.1 7, 40, .inl hPlaces)), (n0, .inr (1, [.int nCells, .int nSigns, .int nHour, .int nStops, .int nWaste, .int nDone, .int nBridged, .ref nKindA, .ref nRoomA, .ref nChargeA, .ref nLeakA, .ref nPlanA])), (nKindA, .inl (D.1 7, 5, .inl nKind)), (nRoomA, .inl (D.1 7, 5, .inl nRoom)), (nChargeA, .inl (D.1 7, 5, .inl nCharge)), (nLeakA, .inl (D.1 7, 5, .inl nLeak)), (nPlanA, .inl (D.1 7, 16, .inl oNPlan))]) (hE_sh : vp_in v1 4 → shF v1.toNatClampNeg = some h0) : ∀ (n : Nat) (v7 : Int32) (nPlan : Nat → Int32), f_X5_read_111 v2 v3 v4 v6 xLatestTorn hThere hLane hLength hPlaces nSigns n v7 nPlan = some (oR, oXLatestTorn, oNPlan) → JW G D 111 [(0, .ref x0), (2, .int v2), (3, .int v3), (4, .int v4), (5, .ref h0), (6, .int v6), (7, .int v7)] [] [(x0, .inr (5, [.ref p0, .ref n0, .ref o0, .ref t0, .ref s0, .ref im0, .ref sh0, .ref cr0, .int xLatestTorn])), (sh0, .inl (D.1 10, 4, .inr (.inr (.inr (.inr shF))))), (h0, .inr (3, [.int hThere, .int hLane, .int hLength, .ref hPlacesA])), (hPlacesA, .inl (D.1 7, 40, .inl hPlaces)), (n0, .inr (1, [.int nCells, .int nSigns, .int nHour, .int nStops, .int nWaste, .int nDone, .int nBridged, .ref nKindA, .ref nRoomA, .ref nChargeA, .ref nLeakA, .ref nPlanA])), (nKindA, .inl (D.1 7, 5, .inl nKind)), (nRoomA, .inl (D.1 7, 5, .inl nRoom)), (nChargeA, .inl (D.1 7, 5, .inl nCharge)), (nLeakA, .inl (D.1 7, 5, .inl nLeak)), (nPlanA, .inl (D.1 7, 16, .inl nPlan))] := by
  intro n
  induction n with
  | zero => intro _ _ hf; rw [f_X5_read_111] at hf; cases hf
  | succ n ih =>
    intro v7 nPlan hf
    rw [f_X5_read_111] at hf
    refine j_iload (pc := 111) C 6 rfl dX5_read_111 ?_
    refine j_iload (pc := 113) C 5 rfl dX5_read_113 ?_
    refine j_icmp_ge (pc := 115) 158 C hf (by decide) dX5_read_115 (fun hf => ?_) (fun hf => ?_)
    · refine j_aload_n (pc := 158) C 0 rfl dX5_read_158 ?_
      refine j_aload (pc := 159) C 4 rfl dX5_read_159 ?_
      refine j_iload_n (pc := 161) C 1 rfl dX5_read_161 ?_
      refine j_iload (pc := 162) C 5 rfl dX5_read_162 ?_
      refine j_iload (pc := 164) C 3 rfl dX5_read_164 ?_
      obtain ⟨a_4, hu, hf⟩ := ob1_some hf
      refine j_callV (pc := 166) (N := 10) (qr := 2) (ci := 3) [.int v2, .int v6, .int v4] [.ref x0] [.int v4, .int v6, .int v2, .ref h0, .ref x0] [.int a_4, .ref x0] [(x0, .inr (5, [.ref p0, .ref n0, .ref o0, .ref t0, .ref s0, .ref im0, .ref sh0, .ref cr0, .int xLatestTorn])), (sh0, .inl (D.1 10, 4, .inr (.inr (.inr (.inr shF))))), (h0, .inr (3, [.int hThere, .int hLane, .int hLength, .ref hPlacesA])), (hPlacesA, .inl (D.1 7, 40, .inl hPlaces)), (n0, .inr (1, [.int nCells, .int nSigns, .int nHour, .int nStops, .int nWaste, .int nDone, .int nBridged, .ref nKindA, .ref nRoomA, .ref nChargeA, .ref nLeakA, .ref nPlanA])), (nKindA, .inl (D.1 7, 5, .inl nKind)), (nRoomA, .inl (D.1 7, 5, .inl nRoom)), (nChargeA, .inl (D.1 7, 5, .inl nCharge)), (nLeakA, .inl (D.1 7, 5, .inl nLeak)), (nPlanA, .inl (D.1 7, 16, .inl nPlan))] [(x0, .inr (5, [.ref p0, .ref n0, .ref o0, .ref t0, .ref s0, .ref im0, .ref sh0, .ref cr0, .int xLatestTorn])), (sh0, .inl (D.1 10, 4, .inr (.inr (.inr (.inr shF))))), (n0, .inr (1, [.int nCells, .int nSigns, .int nHour, .int nStops, .int nWaste, .int nDone, .int nBridged, .ref nKindA, .ref nRoomA, .ref nChargeA, .ref nLeakA, .ref nPlanA])), (nKindA, .inl (D.1 7, 5, .inl nKind)), (nRoomA, .inl (D.1 7, 5, .inl nRoom)), (nChargeA, .inl (D.1 7, 5, .inl nCharge)), (nLeakA, .inl (D.1 7, 5, .inl nLeak)), (nPlanA, .inl (D.1 7, 16, .inl nPlan))] [x0, sh0, h0, hPlacesA, n0, nKindA, nRoomA, nChargeA, nLeakA, nPlanA] [2, 3] [0, 1, 4, 5, 6, 7, 8, 9] C (c_X3_tornBy D h0 hPlacesA v2 v6 v4 hThere hLane hLength hPlaces a_4 hu) k_X3_tornBy gX5_read_X3_tornBy ⟨rfl, rfl⟩ ⟨Nat.le_of_ble_eq_true rfl, Nat.le_of_ble_eq_true rfl⟩ rfl rfl rfl rfl rfl rfl (Nat.le_of_ble_eq_true rfl) rfl rfl rfl rfl (by decide) (by decide) (by decide) rfl rfl rfl dX5_read_166 ?_
      refine j_put (pc := 169) (ty := .int) 0 5 8 [(x0, .inr (5, [.ref p0, .ref n0, .ref o0, .ref t0, .ref s0, .ref im0, .ref sh0, .ref cr0, .int a_4])), (sh0, .inl (D.1 10, 4, .inr (.inr (.inr (.inr shF))))), (h0, .inr (3, [.int hThere, .int hLane, .int hLength, .ref hPlacesA])), (hPlacesA, .inl (D.1 7, 40, .inl hPlaces)), (n0, .inr (1, [.int nCells, .int nSigns, .int nHour, .int nStops, .int nWaste, .int nDone, .int nBridged, .ref nKindA, .ref nRoomA, .ref nChargeA, .ref nLeakA, .ref nPlanA])), (nKindA, .inl (D.1 7, 5, .inl nKind)), (nRoomA, .inl (D.1 7, 5, .inl nRoom)), (nChargeA, .inl (D.1 7, 5, .inl nCharge)), (nLeakA, .inl (D.1 7, 5, .inl nLeak)), (nPlanA, .inl (D.1 7, 16, .inl nPlan))] C iw_X5_read_X5 tyX5 tyX5_ok nmX5 rfl rfl (by decide) fl_X5_read_53 rfl rfl rfl rfl rfl (Nat.le_of_ble_eq_true rfl) rfl dX5_read_169 ?_
      refine j_iload (pc := 172) C 5 rfl dX5_read_172 ?_
      obtain ⟨rfl, rfl, rfl⟩ := si3 hf
      exact j_iret (pc := 174) C dX5_read_174
    · refine j_iload_n (pc := 118) C 2 rfl dX5_read_118 ?_
      refine j_iconst (pc := 119) 2 C (by decide) dX5_read_119 ?_
      refine j_iload (pc := 120) C 6 rfl dX5_read_120 ?_
      refine j_imul (pc := 122) C dX5_read_122 ?_
      refine j_iadd (pc := 123) C dX5_read_123 ?_
      refine j_bdi hf (fun y_5 hf => ?_)
      refine j_istore (pc := 124) 8 [(0, .ref x0), (2, .int v2), (3, .int v3), (4, .int v4), (5, .ref h0), (6, .int v6), (7, .int v7), (8, .int y_5)] [1, 2, 3, 4, 5, 6, 7, 0] C (by decide) rfl dX5_read_124 ?_
      refine j_aload_n (pc := 126) C 0 rfl dX5_read_126 ?_
      refine j_get (pc := 127) 0 5 1 C iw_X5_read_X5 rfl rfl (by decide) fl_X5_read_19 rfl rfl dX5_read_127 ?_
      refine j_get (pc := 130) 4 1 11 C iw_X5_read_X1 rfl rfl (by decide) fl_X5_read_131 rfl rfl dX5_read_130 ?_
      refine j_aload (pc := 133) C 4 rfl dX5_read_133 ?_
      refine j_get (pc := 135) 2 3 3 C iw_X5_read_X3 rfl rfl (by decide) fl_X5_read_245 rfl rfl dX5_read_135 ?_
      refine j_iload (pc := 138) C 7 rfl dX5_read_138 ?_
      refine j_iald (pc := 140) 3 C rfl hf dX5_read_140 (fun hf => ?_)
      refine j_aload (pc := 141) C 4 rfl dX5_read_141 ?_
      refine j_get (pc := 143) 2 3 3 C iw_X5_read_X3 rfl rfl (by decide) fl_X5_read_245 rfl rfl dX5_read_143 ?_
      refine j_iload (pc := 146) C 7 rfl dX5_read_146 ?_
      refine j_iconst (pc := 148) 1 C (by decide) dX5_read_148 ?_
      refine j_iadd (pc := 149) C dX5_read_149 ?_
      refine j_iald (pc := 150) 3 C rfl hf dX5_read_150 (fun hf => ?_)
      refine j_iast (pc := 151) 9 [(x0, .inr (5, [.ref p0, .ref n0, .ref o0, .ref t0, .ref s0, .ref im0, .ref sh0, .ref cr0, .int xLatestTorn])), (sh0, .inl (D.1 10, 4, .inr (.inr (.inr (.inr shF))))), (h0, .inr (3, [.int hThere, .int hLane, .int hLength, .ref hPlacesA])), (hPlacesA, .inl (D.1 7, 40, .inl hPlaces)), (n0, .inr (1, [.int nCells, .int nSigns, .int nHour, .int nStops, .int nWaste, .int nDone, .int nBridged, .ref nKindA, .ref nRoomA, .ref nChargeA, .ref nLeakA, .ref nPlanA])), (nKindA, .inl (D.1 7, 5, .inl nKind)), (nRoomA, .inl (D.1 7, 5, .inl nRoom)), (nChargeA, .inl (D.1 7, 5, .inl nCharge)), (nLeakA, .inl (D.1 7, 5, .inl nLeak)), (nPlanA, .inl (D.1 7, 16, .inl (upd nPlan (hPlaces y_5.toNatClampNeg).toNatClampNeg (hPlaces (y_5 + 1).toNatClampNeg))))] C rfl rfl hf dX5_read_151 (fun hf => ?_)
      refine j_iinc (pc := 152) (v7 + 1) 7 6 [(0, .ref x0), (2, .int v2), (3, .int v3), (4, .int v4), (5, .ref h0), (6, .int v6), (7, .int (v7 + 1)), (8, .int y_5)] [1, 2, 3, 4, 5, 6, 0, 7] C rfl (by rfl) (by decide) rfl dX5_read_152 ?_
      refine j_goto (pc := 155) 111 C (by decide) dX5_read_155 ?_
      refine j_lv [(0, .ref x0), (2, .int v2), (3, .int v3), (4, .int v4), (5, .ref h0), (6, .int v6), (7, .int (v7 + 1))] [0, 1, 2, 3, 4, 5, 6] rfl ?_
      exact ih _ _ hf
set_option maxHeartbeats 4000000 in
set_option maxRecDepth 100000 in
theorem t_X5_read_50 {G : jX} {D : va_G} {x0 p0 n0 o0 t0 s0 im0 sh0 cr0 h0 hPlacesA nKindA nRoomA nChargeA nLeakA nPlanA : Nat} {shF : Nat → Option Nat} {v1 : Int32} {v2 : Int32} {v3 : Int32} {v4 : Int32} {v6 : Int32} {xLatestTorn : Int32} {hThere : Int32} {hLane : Int32} {hLength : Int32} {hPlaces : Nat → Int32} {nCells : Int32} {nSigns : Int32} {nHour : Int32} {nStops : Int32} {nWaste : Int32} {nDone : Int32} {nBridged : Int32} {nKind : Nat → Int32} {nRoom : Nat → Int32} {nCharge : Nat → Int32} {nLeak : Nat → Int32} {nPlan : Nat → Int32} {oR : Int32} {oXLatestTorn : Int32} {oNPlan : Nat → Int32} (C : KC G D cX5_read RX5 wsX5_read ({ frames := 2, cells := 0, slots := 0, locals := 36 } : Room) 9 (some .int) (some (.int oR)) [(x0, .inr (5, [.ref p0, .ref n0, .ref o0, .ref t0, .ref s0, .ref im0, .ref sh0, .ref cr0, .int oXLatestTorn])), (sh0, .inl (D.1 10, 4, .inr (.inr (.inr (.inr shF))))), (h0, .inr (3, [.int hThere, .int hLane, .int hLength, .ref hPlacesA])), (hPlacesA, .inl (D.1 7, 40, .inl hPlaces)), (n0, .inr (1, [.int nCells, .int nSigns, .int nHour, .int nStops, .int nWaste, .int nDone, .int nBridged, .ref nKindA, .ref nRoomA, .ref nChargeA, .ref nLeakA, .ref nPlanA])), (nKindA, .inl (D.1 7, 5, .inl nKind)), (nRoomA, .inl (D.1 7, 5, .inl nRoom)), (nChargeA, .inl (D.1 7, 5, .inl nCharge)), (nLeakA, .inl (D.1 7, 5, .inl nLeak)), (nPlanA, .inl (D.1 7, 16, .inl oNPlan))]) (hE_sh : vp_in v1 4 → shF v1.toNatClampNeg = some h0) : ∀ (n : Nat) (v7 : Int32), f_X5_read_50 v2 v3 v4 v6 xLatestTorn hThere hLane hLength hPlaces nSigns nPlan n v7 = some (oR, oXLatestTorn, oNPlan) → JW G D 50 [(0, .ref x0), (2, .int v2), (3, .int v3), (4, .int v4), (5, .ref h0), (6, .int v6), (7, .int v7)] [] [(x0, .inr (5, [.ref p0, .ref n0, .ref o0, .ref t0, .ref s0, .ref im0, .ref sh0, .ref cr0, .int xLatestTorn])), (sh0, .inl (D.1 10, 4, .inr (.inr (.inr (.inr shF))))), (h0, .inr (3, [.int hThere, .int hLane, .int hLength, .ref hPlacesA])), (hPlacesA, .inl (D.1 7, 40, .inl hPlaces)), (n0, .inr (1, [.int nCells, .int nSigns, .int nHour, .int nStops, .int nWaste, .int nDone, .int nBridged, .ref nKindA, .ref nRoomA, .ref nChargeA, .ref nLeakA, .ref nPlanA])), (nKindA, .inl (D.1 7, 5, .inl nKind)), (nRoomA, .inl (D.1 7, 5, .inl nRoom)), (nChargeA, .inl (D.1 7, 5, .inl nCharge)), (nLeakA, .inl (D.1 7, 5, .inl nLeak)), (nPlanA, .inl (D.1 7, 16, .inl nPlan))] := by
  intro n
  induction n with
  | zero => intro _ hf; rw [f_X5_read_50] at hf; cases hf
  | succ n ih =>
    intro v7 hf
    rw [f_X5_read_50] at hf
    refine j_iload (pc := 50) C 6 rfl dX5_read_50 ?_
    refine j_iload (pc := 52) C 5 rfl dX5_read_52 ?_
    refine j_icmp_ge (pc := 54) 108 C hf (by decide) dX5_read_54 (fun hf => ?_) (fun hf => ?_)
    · refine j_iconst (pc := 108) 0 C (by decide) dX5_read_108 ?_
      refine j_istore (pc := 109) 7 [(0, .ref x0), (2, .int v2), (3, .int v3), (4, .int v4), (5, .ref h0), (6, .int v6), (7, .int 0)] [1, 2, 3, 4, 5, 6, 0] C (by decide) rfl dX5_read_109 ?_
      exact t_X5_read_111 C hE_sh 1000 _ _ hf
    · refine j_iload_n (pc := 57) C 2 rfl dX5_read_57 ?_
      refine j_iconst (pc := 58) 2 C (by decide) dX5_read_58 ?_
      refine j_iload (pc := 59) C 6 rfl dX5_read_59 ?_
      refine j_imul (pc := 61) C dX5_read_61 ?_
      refine j_iadd (pc := 62) C dX5_read_62 ?_
      refine j_bdi hf (fun y_6 hf => ?_)
      refine j_istore (pc := 63) 8 [(0, .ref x0), (2, .int v2), (3, .int v3), (4, .int v4), (5, .ref h0), (6, .int v6), (7, .int v7), (8, .int y_6)] [1, 2, 3, 4, 5, 6, 7, 0] C (by decide) rfl dX5_read_63 ?_
      refine j_aload_n (pc := 65) C 0 rfl dX5_read_65 ?_
      refine j_aload (pc := 66) C 4 rfl dX5_read_66 ?_
      refine j_get (pc := 68) 2 3 3 C iw_X5_read_X3 rfl rfl (by decide) fl_X5_read_245 rfl rfl dX5_read_68 ?_
      refine j_iload (pc := 71) C 7 rfl dX5_read_71 ?_
      refine j_iald (pc := 73) 3 C rfl hf dX5_read_73 (fun hf => ?_)
      obtain ⟨a_7, hu, hf⟩ := ob1_some hf
      refine j_callV (pc := 74) (N := 10) (qr := 0) (ci := 5) [.int (hPlaces y_6.toNatClampNeg)] [] [.int (hPlaces y_6.toNatClampNeg), .ref x0] [.int a_7] [(x0, .inr (5, [.ref p0, .ref n0, .ref o0, .ref t0, .ref s0, .ref im0, .ref sh0, .ref cr0, .int xLatestTorn])), (sh0, .inl (D.1 10, 4, .inr (.inr (.inr (.inr shF))))), (h0, .inr (3, [.int hThere, .int hLane, .int hLength, .ref hPlacesA])), (hPlacesA, .inl (D.1 7, 40, .inl hPlaces)), (n0, .inr (1, [.int nCells, .int nSigns, .int nHour, .int nStops, .int nWaste, .int nDone, .int nBridged, .ref nKindA, .ref nRoomA, .ref nChargeA, .ref nLeakA, .ref nPlanA])), (nKindA, .inl (D.1 7, 5, .inl nKind)), (nRoomA, .inl (D.1 7, 5, .inl nRoom)), (nChargeA, .inl (D.1 7, 5, .inl nCharge)), (nLeakA, .inl (D.1 7, 5, .inl nLeak)), (nPlanA, .inl (D.1 7, 16, .inl nPlan))] [(sh0, .inl (D.1 10, 4, .inr (.inr (.inr (.inr shF))))), (h0, .inr (3, [.int hThere, .int hLane, .int hLength, .ref hPlacesA])), (hPlacesA, .inl (D.1 7, 40, .inl hPlaces))] [x0, sh0, h0, hPlacesA, n0, nKindA, nRoomA, nChargeA, nLeakA, nPlanA] [0, 4, 5, 6, 7, 8, 9] [1, 2, 3] C (c_X5_isSign D x0 p0 n0 o0 t0 s0 im0 sh0 cr0 nKindA nRoomA nChargeA nLeakA nPlanA (hPlaces y_6.toNatClampNeg) xLatestTorn nCells nSigns nHour nStops nWaste nDone nBridged nKind nRoom nCharge nLeak nPlan a_7 hu) k_X5_isSign gX5_read_X5_isSign ⟨rfl, rfl⟩ ⟨Nat.le_of_ble_eq_true rfl, Nat.le_of_ble_eq_true rfl⟩ rfl rfl rfl rfl rfl rfl (Nat.le_of_ble_eq_true rfl) rfl rfl rfl rfl (by decide) (by decide) (by decide) rfl rfl rfl dX5_read_74 ?_
      refine j_if_eq (pc := 77) 96 C hf (by decide) dX5_read_77 (fun hf => ?_) (fun hf => ?_)
      · refine j_bipush (pc := 96) (-20) C (by decide) dX5_read_96 ?_
        refine j_iload (pc := 98) C 6 rfl dX5_read_98 ?_
        refine j_isub (pc := 100) C dX5_read_100 ?_
        obtain ⟨rfl, rfl, rfl⟩ := si3 hf
        exact j_iret (pc := 101) C dX5_read_101
      · refine j_aload (pc := 80) C 4 rfl dX5_read_80 ?_
        refine j_get (pc := 82) 2 3 3 C iw_X5_read_X3 rfl rfl (by decide) fl_X5_read_245 rfl rfl dX5_read_82 ?_
        refine j_iload (pc := 85) C 7 rfl dX5_read_85 ?_
        refine j_iconst (pc := 87) 1 C (by decide) dX5_read_87 ?_
        refine j_iadd (pc := 88) C dX5_read_88 ?_
        refine j_iald (pc := 89) 3 C rfl hf dX5_read_89 (fun hf => ?_)
        obtain ⟨a_8, hu, hf⟩ := ob1_some hf
        refine j_callS (pc := 90) (N := 10) [.int (hPlaces (y_6 + 1).toNatClampNeg)] [] [.int (hPlaces (y_6 + 1).toNatClampNeg)] [.int a_8] [(x0, .inr (5, [.ref p0, .ref n0, .ref o0, .ref t0, .ref s0, .ref im0, .ref sh0, .ref cr0, .int xLatestTorn])), (sh0, .inl (D.1 10, 4, .inr (.inr (.inr (.inr shF))))), (h0, .inr (3, [.int hThere, .int hLane, .int hLength, .ref hPlacesA])), (hPlacesA, .inl (D.1 7, 40, .inl hPlaces)), (n0, .inr (1, [.int nCells, .int nSigns, .int nHour, .int nStops, .int nWaste, .int nDone, .int nBridged, .ref nKindA, .ref nRoomA, .ref nChargeA, .ref nLeakA, .ref nPlanA])), (nKindA, .inl (D.1 7, 5, .inl nKind)), (nRoomA, .inl (D.1 7, 5, .inl nRoom)), (nChargeA, .inl (D.1 7, 5, .inl nCharge)), (nLeakA, .inl (D.1 7, 5, .inl nLeak)), (nPlanA, .inl (D.1 7, 16, .inl nPlan))] [(x0, .inr (5, [.ref p0, .ref n0, .ref o0, .ref t0, .ref s0, .ref im0, .ref sh0, .ref cr0, .int xLatestTorn])), (sh0, .inl (D.1 10, 4, .inr (.inr (.inr (.inr shF))))), (h0, .inr (3, [.int hThere, .int hLane, .int hLength, .ref hPlacesA])), (hPlacesA, .inl (D.1 7, 40, .inl hPlaces)), (n0, .inr (1, [.int nCells, .int nSigns, .int nHour, .int nStops, .int nWaste, .int nDone, .int nBridged, .ref nKindA, .ref nRoomA, .ref nChargeA, .ref nLeakA, .ref nPlanA])), (nKindA, .inl (D.1 7, 5, .inl nKind)), (nRoomA, .inl (D.1 7, 5, .inl nRoom)), (nChargeA, .inl (D.1 7, 5, .inl nCharge)), (nLeakA, .inl (D.1 7, 5, .inl nLeak)), (nPlanA, .inl (D.1 7, 16, .inl nPlan))] [x0, sh0, h0, hPlacesA, n0, nKindA, nRoomA, nChargeA, nLeakA, nPlanA] [] [0, 1, 2, 3, 4, 5, 6, 7, 8, 9] C (c_X5_isSignValue D (hPlaces (y_6 + 1).toNatClampNeg) a_8 hu) k_X5_isSignValue gX5_read_X5_isSignValue ⟨rfl, rfl⟩ ⟨Nat.le_of_ble_eq_true rfl, Nat.le_of_ble_eq_true rfl⟩ rfl rfl rfl (Nat.le_of_ble_eq_true rfl) rfl rfl rfl rfl (by decide) (by decide) (by decide) rfl rfl rfl dX5_read_90 ?_
        refine j_if_ne (pc := 93) 102 C hf (by decide) dX5_read_93 (fun hf => ?_) (fun hf => ?_)
        · refine j_iinc (pc := 102) (v7 + 1) 7 6 [(0, .ref x0), (2, .int v2), (3, .int v3), (4, .int v4), (5, .ref h0), (6, .int v6), (7, .int (v7 + 1)), (8, .int y_6)] [1, 2, 3, 4, 5, 6, 0, 7] C rfl (by rfl) (by decide) rfl dX5_read_102 ?_
          refine j_goto (pc := 105) 50 C (by decide) dX5_read_105 ?_
          refine j_lv [(0, .ref x0), (2, .int v2), (3, .int v3), (4, .int v4), (5, .ref h0), (6, .int v6), (7, .int (v7 + 1))] [0, 1, 2, 3, 4, 5, 6] rfl ?_
          exact ih _ hf
        · refine j_bipush (pc := 96) (-20) C (by decide) dX5_read_96 ?_
          refine j_iload (pc := 98) C 6 rfl dX5_read_98 ?_
          refine j_isub (pc := 100) C dX5_read_100 ?_
          obtain ⟨rfl, rfl, rfl⟩ := si3 hf
          exact j_iret (pc := 101) C dX5_read_101
set_option maxHeartbeats 4000000 in
set_option maxRecDepth 100000 in
theorem t_X5_read_0 {G : jX} {D : va_G} {x0 p0 n0 o0 t0 s0 im0 sh0 cr0 h0 hPlacesA nKindA nRoomA nChargeA nLeakA nPlanA : Nat} {shF : Nat → Option Nat} {v1 : Int32} {v2 : Int32} {v3 : Int32} {v4 : Int32} {xLatestTorn : Int32} {hThere : Int32} {hLane : Int32} {hLength : Int32} {hPlaces : Nat → Int32} {nCells : Int32} {nSigns : Int32} {nHour : Int32} {nStops : Int32} {nWaste : Int32} {nDone : Int32} {nBridged : Int32} {nKind : Nat → Int32} {nRoom : Nat → Int32} {nCharge : Nat → Int32} {nLeak : Nat → Int32} {nPlan : Nat → Int32} {oR : Int32} {oXLatestTorn : Int32} {oNPlan : Nat → Int32} (C : KC G D cX5_read RX5 wsX5_read ({ frames := 2, cells := 0, slots := 0, locals := 36 } : Room) 9 (some .int) (some (.int oR)) [(x0, .inr (5, [.ref p0, .ref n0, .ref o0, .ref t0, .ref s0, .ref im0, .ref sh0, .ref cr0, .int oXLatestTorn])), (sh0, .inl (D.1 10, 4, .inr (.inr (.inr (.inr shF))))), (h0, .inr (3, [.int hThere, .int hLane, .int hLength, .ref hPlacesA])), (hPlacesA, .inl (D.1 7, 40, .inl hPlaces)), (n0, .inr (1, [.int nCells, .int nSigns, .int nHour, .int nStops, .int nWaste, .int nDone, .int nBridged, .ref nKindA, .ref nRoomA, .ref nChargeA, .ref nLeakA, .ref nPlanA])), (nKindA, .inl (D.1 7, 5, .inl nKind)), (nRoomA, .inl (D.1 7, 5, .inl nRoom)), (nChargeA, .inl (D.1 7, 5, .inl nCharge)), (nLeakA, .inl (D.1 7, 5, .inl nLeak)), (nPlanA, .inl (D.1 7, 16, .inl oNPlan))]) (hE_sh : vp_in v1 4 → shF v1.toNatClampNeg = some h0) (hf : f_X5_read v1 v2 v3 v4 xLatestTorn hThere hLane hLength hPlaces nSigns nPlan = some (oR, oXLatestTorn, oNPlan)) : JW G D 0 [(0, .ref x0), (1, .int v1), (2, .int v2), (3, .int v3), (4, .int v4)] [] [(x0, .inr (5, [.ref p0, .ref n0, .ref o0, .ref t0, .ref s0, .ref im0, .ref sh0, .ref cr0, .int xLatestTorn])), (sh0, .inl (D.1 10, 4, .inr (.inr (.inr (.inr shF))))), (h0, .inr (3, [.int hThere, .int hLane, .int hLength, .ref hPlacesA])), (hPlacesA, .inl (D.1 7, 40, .inl hPlaces)), (n0, .inr (1, [.int nCells, .int nSigns, .int nHour, .int nStops, .int nWaste, .int nDone, .int nBridged, .ref nKindA, .ref nRoomA, .ref nChargeA, .ref nLeakA, .ref nPlanA])), (nKindA, .inl (D.1 7, 5, .inl nKind)), (nRoomA, .inl (D.1 7, 5, .inl nRoom)), (nChargeA, .inl (D.1 7, 5, .inl nCharge)), (nLeakA, .inl (D.1 7, 5, .inl nLeak)), (nPlanA, .inl (D.1 7, 16, .inl nPlan))] := by
  unfold f_X5_read at hf
  refine j_iload_n (pc := 0) C 1 rfl dX5_read_0 ?_
  obtain ⟨a_1, hu, hf⟩ := ob1_some hf
  refine j_callS (pc := 1) (N := 10) [.int v1] [] [.int v1] [.int a_1] [(x0, .inr (5, [.ref p0, .ref n0, .ref o0, .ref t0, .ref s0, .ref im0, .ref sh0, .ref cr0, .int xLatestTorn])), (sh0, .inl (D.1 10, 4, .inr (.inr (.inr (.inr shF))))), (h0, .inr (3, [.int hThere, .int hLane, .int hLength, .ref hPlacesA])), (hPlacesA, .inl (D.1 7, 40, .inl hPlaces)), (n0, .inr (1, [.int nCells, .int nSigns, .int nHour, .int nStops, .int nWaste, .int nDone, .int nBridged, .ref nKindA, .ref nRoomA, .ref nChargeA, .ref nLeakA, .ref nPlanA])), (nKindA, .inl (D.1 7, 5, .inl nKind)), (nRoomA, .inl (D.1 7, 5, .inl nRoom)), (nChargeA, .inl (D.1 7, 5, .inl nCharge)), (nLeakA, .inl (D.1 7, 5, .inl nLeak)), (nPlanA, .inl (D.1 7, 16, .inl nPlan))] [(x0, .inr (5, [.ref p0, .ref n0, .ref o0, .ref t0, .ref s0, .ref im0, .ref sh0, .ref cr0, .int xLatestTorn])), (sh0, .inl (D.1 10, 4, .inr (.inr (.inr (.inr shF))))), (h0, .inr (3, [.int hThere, .int hLane, .int hLength, .ref hPlacesA])), (hPlacesA, .inl (D.1 7, 40, .inl hPlaces)), (n0, .inr (1, [.int nCells, .int nSigns, .int nHour, .int nStops, .int nWaste, .int nDone, .int nBridged, .ref nKindA, .ref nRoomA, .ref nChargeA, .ref nLeakA, .ref nPlanA])), (nKindA, .inl (D.1 7, 5, .inl nKind)), (nRoomA, .inl (D.1 7, 5, .inl nRoom)), (nChargeA, .inl (D.1 7, 5, .inl nCharge)), (nLeakA, .inl (D.1 7, 5, .inl nLeak)), (nPlanA, .inl (D.1 7, 16, .inl nPlan))] [x0, sh0, h0, hPlacesA, n0, nKindA, nRoomA, nChargeA, nLeakA, nPlanA] [] [0, 1, 2, 3, 4, 5, 6, 7, 8, 9] C (c_X5_isSheet D v1 a_1 hu) k_X5_isSheet gX5_read_X5_isSheet ⟨rfl, rfl⟩ ⟨Nat.le_of_ble_eq_true rfl, Nat.le_of_ble_eq_true rfl⟩ rfl rfl rfl (Nat.le_of_ble_eq_true rfl) rfl rfl rfl rfl (by decide) (by decide) (by decide) rfl rfl rfl dX5_read_1 ?_
  refine j_if_eq (pc := 4) 26 C hf (by decide) dX5_read_4 (fun hf => ?_) (fun hf => ?_)
  · refine j_iconst (pc := 26) (-1) C (by decide) dX5_read_26 ?_
    obtain ⟨rfl, rfl, rfl⟩ := si3 hf
    exact j_iret (pc := 27) C dX5_read_27
  · refine j_iload_n (pc := 7) C 2 rfl dX5_read_7 ?_
    obtain ⟨a_2, hu, hf⟩ := ob1_some hf
    refine j_callS (pc := 8) (N := 10) [.int v2] [] [.int v2] [.int a_2] [(x0, .inr (5, [.ref p0, .ref n0, .ref o0, .ref t0, .ref s0, .ref im0, .ref sh0, .ref cr0, .int xLatestTorn])), (sh0, .inl (D.1 10, 4, .inr (.inr (.inr (.inr shF))))), (h0, .inr (3, [.int hThere, .int hLane, .int hLength, .ref hPlacesA])), (hPlacesA, .inl (D.1 7, 40, .inl hPlaces)), (n0, .inr (1, [.int nCells, .int nSigns, .int nHour, .int nStops, .int nWaste, .int nDone, .int nBridged, .ref nKindA, .ref nRoomA, .ref nChargeA, .ref nLeakA, .ref nPlanA])), (nKindA, .inl (D.1 7, 5, .inl nKind)), (nRoomA, .inl (D.1 7, 5, .inl nRoom)), (nChargeA, .inl (D.1 7, 5, .inl nCharge)), (nLeakA, .inl (D.1 7, 5, .inl nLeak)), (nPlanA, .inl (D.1 7, 16, .inl nPlan))] [(x0, .inr (5, [.ref p0, .ref n0, .ref o0, .ref t0, .ref s0, .ref im0, .ref sh0, .ref cr0, .int xLatestTorn])), (sh0, .inl (D.1 10, 4, .inr (.inr (.inr (.inr shF))))), (h0, .inr (3, [.int hThere, .int hLane, .int hLength, .ref hPlacesA])), (hPlacesA, .inl (D.1 7, 40, .inl hPlaces)), (n0, .inr (1, [.int nCells, .int nSigns, .int nHour, .int nStops, .int nWaste, .int nDone, .int nBridged, .ref nKindA, .ref nRoomA, .ref nChargeA, .ref nLeakA, .ref nPlanA])), (nKindA, .inl (D.1 7, 5, .inl nKind)), (nRoomA, .inl (D.1 7, 5, .inl nRoom)), (nChargeA, .inl (D.1 7, 5, .inl nCharge)), (nLeakA, .inl (D.1 7, 5, .inl nLeak)), (nPlanA, .inl (D.1 7, 16, .inl nPlan))] [x0, sh0, h0, hPlacesA, n0, nKindA, nRoomA, nChargeA, nLeakA, nPlanA] [] [0, 1, 2, 3, 4, 5, 6, 7, 8, 9] C (c_X5_isLane D v2 a_2 hu) k_X5_isLane gX5_read_X5_isLane ⟨rfl, rfl⟩ ⟨Nat.le_of_ble_eq_true rfl, Nat.le_of_ble_eq_true rfl⟩ rfl rfl rfl (Nat.le_of_ble_eq_true rfl) rfl rfl rfl rfl (by decide) (by decide) (by decide) rfl rfl rfl dX5_read_8 ?_
    refine j_if_eq (pc := 11) 26 C hf (by decide) dX5_read_11 (fun hf => ?_) (fun hf => ?_)
    · refine j_iconst (pc := 26) (-1) C (by decide) dX5_read_26 ?_
      obtain ⟨rfl, rfl, rfl⟩ := si3 hf
      exact j_iret (pc := 27) C dX5_read_27
    · refine j_iload (pc := 14) C 4 rfl dX5_read_14 ?_
      refine j_if_lt (pc := 16) 26 C hf (by decide) dX5_read_16 (fun hf => ?_) (fun hf => ?_)
      · refine j_iconst (pc := 26) (-1) C (by decide) dX5_read_26 ?_
        obtain ⟨rfl, rfl, rfl⟩ := si3 hf
        exact j_iret (pc := 27) C dX5_read_27
      · refine j_iload (pc := 19) C 4 rfl dX5_read_19 ?_
        refine j_bipush (pc := 21) 20 C (by decide) dX5_read_21 ?_
        refine j_icmp_le (pc := 23) 28 C hf (by decide) dX5_read_23 (fun hf => ?_) (fun hf => ?_)
        · refine j_aload_n (pc := 28) C 0 rfl dX5_read_28 ?_
          refine j_get (pc := 29) 0 5 6 C iw_X5_read_X5 rfl rfl (by decide) fl_X5_read_44 rfl rfl dX5_read_29 ?_
          refine j_iload_n (pc := 32) C 1 rfl dX5_read_32 ?_
          refine j_aald (pc := 33) (t := 3) 1 C rfl rfl hf hE_sh dX5_read_33 (fun hf => ?_)
          refine j_astore (pc := 34) 5 [(0, .ref x0), (1, .int v1), (2, .int v2), (3, .int v3), (4, .int v4), (5, .ref h0)] [1, 2, 3, 4, 5, 0] C (by decide) rfl dX5_read_34 ?_
          refine j_aload (pc := 36) C 5 rfl dX5_read_36 ?_
          refine j_iload_n (pc := 38) C 2 rfl dX5_read_38 ?_
          refine j_iload_n (pc := 39) C 3 rfl dX5_read_39 ?_
          refine j_iload (pc := 40) C 4 rfl dX5_read_40 ?_
          obtain ⟨a_3, hu, hf⟩ := ob1_some hf
          refine j_callV (pc := 42) (N := 10) (qr := 2) (ci := 3) [.int v2, .int v3, .int v4] [] [.int v4, .int v3, .int v2, .ref h0] [.int a_3] [(x0, .inr (5, [.ref p0, .ref n0, .ref o0, .ref t0, .ref s0, .ref im0, .ref sh0, .ref cr0, .int xLatestTorn])), (sh0, .inl (D.1 10, 4, .inr (.inr (.inr (.inr shF))))), (h0, .inr (3, [.int hThere, .int hLane, .int hLength, .ref hPlacesA])), (hPlacesA, .inl (D.1 7, 40, .inl hPlaces)), (n0, .inr (1, [.int nCells, .int nSigns, .int nHour, .int nStops, .int nWaste, .int nDone, .int nBridged, .ref nKindA, .ref nRoomA, .ref nChargeA, .ref nLeakA, .ref nPlanA])), (nKindA, .inl (D.1 7, 5, .inl nKind)), (nRoomA, .inl (D.1 7, 5, .inl nRoom)), (nChargeA, .inl (D.1 7, 5, .inl nCharge)), (nLeakA, .inl (D.1 7, 5, .inl nLeak)), (nPlanA, .inl (D.1 7, 16, .inl nPlan))] [(x0, .inr (5, [.ref p0, .ref n0, .ref o0, .ref t0, .ref s0, .ref im0, .ref sh0, .ref cr0, .int xLatestTorn])), (sh0, .inl (D.1 10, 4, .inr (.inr (.inr (.inr shF))))), (n0, .inr (1, [.int nCells, .int nSigns, .int nHour, .int nStops, .int nWaste, .int nDone, .int nBridged, .ref nKindA, .ref nRoomA, .ref nChargeA, .ref nLeakA, .ref nPlanA])), (nKindA, .inl (D.1 7, 5, .inl nKind)), (nRoomA, .inl (D.1 7, 5, .inl nRoom)), (nChargeA, .inl (D.1 7, 5, .inl nCharge)), (nLeakA, .inl (D.1 7, 5, .inl nLeak)), (nPlanA, .inl (D.1 7, 16, .inl nPlan))] [x0, sh0, h0, hPlacesA, n0, nKindA, nRoomA, nChargeA, nLeakA, nPlanA] [2, 3] [0, 1, 4, 5, 6, 7, 8, 9] C (c_X3_wholePairs D h0 hPlacesA v2 v3 v4 hThere hLane hLength hPlaces a_3 hu) k_X3_wholePairs gX5_read_X3_wholePairs ⟨rfl, rfl⟩ ⟨Nat.le_of_ble_eq_true rfl, Nat.le_of_ble_eq_true rfl⟩ rfl rfl rfl rfl rfl rfl (Nat.le_of_ble_eq_true rfl) rfl rfl rfl rfl (by decide) (by decide) (by decide) rfl rfl rfl dX5_read_42 ?_
          refine j_istore (pc := 45) 6 [(0, .ref x0), (1, .int v1), (2, .int v2), (3, .int v3), (4, .int v4), (5, .ref h0), (6, .int a_3)] [1, 2, 3, 4, 5, 6, 0] C (by decide) rfl dX5_read_45 ?_
          refine j_iconst (pc := 47) 0 C (by decide) dX5_read_47 ?_
          refine j_istore (pc := 48) 7 [(0, .ref x0), (1, .int v1), (2, .int v2), (3, .int v3), (4, .int v4), (5, .ref h0), (6, .int a_3), (7, .int 0)] [1, 2, 3, 4, 5, 6, 7, 0] C (by decide) rfl dX5_read_48 ?_
          refine j_lv [(0, .ref x0), (2, .int v2), (3, .int v3), (4, .int v4), (5, .ref h0), (6, .int a_3), (7, .int 0)] [0, 2, 3, 4, 5, 6, 7] rfl ?_
          exact t_X5_read_50 C hE_sh 1000 _ hf
        · refine j_iconst (pc := 26) (-1) C (by decide) dX5_read_26 ?_
          obtain ⟨rfl, rfl, rfl⟩ := si3 hf
          exact j_iret (pc := 27) C dX5_read_27
theorem k_X5_read : CK yX5_read wsX5_read cX5_read 9 (some .int) 4 := ⟨rfl, by decide +kernel⟩
theorem c_X5_read (D : va_G) (x0 p0 n0 o0 t0 s0 im0 sh0 cr0 h0 hPlacesA nKindA nRoomA nChargeA nLeakA nPlanA : Nat) (shF : Nat → Option Nat) (v1 : Int32) (v2 : Int32) (v3 : Int32) (v4 : Int32) (xLatestTorn : Int32) (hThere : Int32) (hLane : Int32) (hLength : Int32) (hPlaces : Nat → Int32) (nCells : Int32) (nSigns : Int32) (nHour : Int32) (nStops : Int32) (nWaste : Int32) (nDone : Int32) (nBridged : Int32) (nKind : Nat → Int32) (nRoom : Nat → Int32) (nCharge : Nat → Int32) (nLeak : Nat → Int32) (nPlan : Nat → Int32) (oR : Int32) (oXLatestTorn : Int32) (oNPlan : Nat → Int32) (hE_sh : vp_in v1 4 → shF v1.toNatClampNeg = some h0) (hf : f_X5_read v1 v2 v3 v4 xLatestTorn hThere hLane hLength hPlaces nSigns nPlan = some (oR, oXLatestTorn, oNPlan)) : ∀ l, MW l yX5_read wsX5_read ({ frames := 2, cells := 0, slots := 0, locals := 36 } : Room) D [.ref x0, .int v1, .int v2, .int v3, .int v4] [(x0, .inr (5, [.ref p0, .ref n0, .ref o0, .ref t0, .ref s0, .ref im0, .ref sh0, .ref cr0, .int xLatestTorn])), (sh0, .inl (D.1 10, 4, .inr (.inr (.inr (.inr shF))))), (h0, .inr (3, [.int hThere, .int hLane, .int hLength, .ref hPlacesA])), (hPlacesA, .inl (D.1 7, 40, .inl hPlaces)), (n0, .inr (1, [.int nCells, .int nSigns, .int nHour, .int nStops, .int nWaste, .int nDone, .int nBridged, .ref nKindA, .ref nRoomA, .ref nChargeA, .ref nLeakA, .ref nPlanA])), (nKindA, .inl (D.1 7, 5, .inl nKind)), (nRoomA, .inl (D.1 7, 5, .inl nRoom)), (nChargeA, .inl (D.1 7, 5, .inl nCharge)), (nLeakA, .inl (D.1 7, 5, .inl nLeak)), (nPlanA, .inl (D.1 7, 16, .inl nPlan))] (some (.int oR)) [(x0, .inr (5, [.ref p0, .ref n0, .ref o0, .ref t0, .ref s0, .ref im0, .ref sh0, .ref cr0, .int oXLatestTorn])), (sh0, .inl (D.1 10, 4, .inr (.inr (.inr (.inr shF))))), (h0, .inr (3, [.int hThere, .int hLane, .int hLength, .ref hPlacesA])), (hPlacesA, .inl (D.1 7, 40, .inl hPlaces)), (n0, .inr (1, [.int nCells, .int nSigns, .int nHour, .int nStops, .int nWaste, .int nDone, .int nBridged, .ref nKindA, .ref nRoomA, .ref nChargeA, .ref nLeakA, .ref nPlanA])), (nKindA, .inl (D.1 7, 5, .inl nKind)), (nRoomA, .inl (D.1 7, 5, .inl nRoom)), (nChargeA, .inl (D.1 7, 5, .inl nCharge)), (nLeakA, .inl (D.1 7, 5, .inl nLeak)), (nPlanA, .inl (D.1 7, 16, .inl oNPlan))] := j_met (cc := cX5_read) (nl := 9) (rt := (some .int)) (own := RX5) (lv := [(0, .ref x0), (1, .int v1), (2, .int v2), (3, .int v3), (4, .int v4)]) (by decide +kernel) rfl rfl rfl (Nat.le_of_ble_eq_true rfl) (fun G C => t_X5_read_0 C hE_sh hf)

-- X5_torn
theorem fl_X5_torn_53 : Cond.fieldLink RX5 53 "CellsInRow" "latestTorn" "I" ∈ wsX5_torn := by decide +kernel
theorem iw_X5_torn_X5 : ∀ w ∈ wsX50, w ∈ wsX5_torn := by decide +kernel
set_option maxHeartbeats 4000000 in
set_option maxRecDepth 100000 in
theorem t_X5_torn_0 {G : jX} {D : va_G} {x0 p0 n0 o0 t0 s0 im0 sh0 cr0 : Nat} {xLatestTorn : Int32} {oR : Int32} (C : KC G D cX5_torn RX5 wsX5_torn ({ frames := 0, cells := 0, slots := 0, locals := 0 } : Room) 1 (some .int) (some (.int oR)) [(x0, .inr (5, [.ref p0, .ref n0, .ref o0, .ref t0, .ref s0, .ref im0, .ref sh0, .ref cr0, .int xLatestTorn]))]) (hf : f_X5_torn xLatestTorn = some oR) : JW G D 0 [(0, .ref x0)] [] [(x0, .inr (5, [.ref p0, .ref n0, .ref o0, .ref t0, .ref s0, .ref im0, .ref sh0, .ref cr0, .int xLatestTorn]))] := by
  unfold f_X5_torn at hf
  refine j_aload_n (pc := 0) C 0 rfl dX5_torn_0 ?_
  refine j_get (pc := 1) 0 5 8 C iw_X5_torn_X5 rfl rfl (by decide) fl_X5_torn_53 rfl rfl dX5_torn_1 ?_
  obtain rfl := si1 hf
  exact j_iret (pc := 4) C dX5_torn_4
theorem k_X5_torn : CK yX5_torn wsX5_torn cX5_torn 1 (some .int) 0 := ⟨rfl, by decide +kernel⟩
theorem c_X5_torn (D : va_G) (x0 p0 n0 o0 t0 s0 im0 sh0 cr0 : Nat) (xLatestTorn : Int32) (oR : Int32) (hf : f_X5_torn xLatestTorn = some oR) : ∀ l, MW l yX5_torn wsX5_torn ({ frames := 0, cells := 0, slots := 0, locals := 0 } : Room) D [.ref x0] [(x0, .inr (5, [.ref p0, .ref n0, .ref o0, .ref t0, .ref s0, .ref im0, .ref sh0, .ref cr0, .int xLatestTorn]))] (some (.int oR)) [(x0, .inr (5, [.ref p0, .ref n0, .ref o0, .ref t0, .ref s0, .ref im0, .ref sh0, .ref cr0, .int xLatestTorn]))] := j_met (cc := cX5_torn) (nl := 1) (rt := (some .int)) (own := RX5) (lv := [(0, .ref x0)]) (by decide +kernel) rfl rfl rfl (Nat.le_of_ble_eq_true rfl) (fun G C => t_X5_torn_0 C hf)

-- X5_count
theorem fl_X5_count_32 : Cond.fieldLink RX5 32 "CellsInRow" "seen" "LCellsInRow$Seen;" ∈ wsX5_count := by decide +kernel
theorem iw_X5_count_X5 : ∀ w ∈ wsX50, w ∈ wsX5_count := by decide +kernel
theorem fl_X5_count_74 : Cond.fieldLink RX5 74 "CellsInRow$Seen" "size" "I" ∈ wsX5_count := by decide +kernel
theorem iw_X5_count_X2 : ∀ w ∈ wsX20, w ∈ wsX5_count := by decide +kernel
theorem fl_X5_count_38 : Cond.fieldLink RX5 38 "CellsInRow" "images" "[LCellsInRow$Image;" ∈ wsX5_count := by decide +kernel
theorem fl_X5_count_77 : Cond.fieldLink RX5 77 "CellsInRow$Image" "there" "Z" ∈ wsX5_count := by decide +kernel
theorem iw_X5_count_X0 : ∀ w ∈ wsX00, w ∈ wsX5_count := by decide +kernel
theorem fl_X5_count_10 : Cond.fieldLink RX5 10 "CellsInRow" "tape" "LCellsInRow$Tape;" ∈ wsX5_count := by decide +kernel
theorem fl_X5_count_59 : Cond.fieldLink RX5 59 "CellsInRow$Tape" "length" "I" ∈ wsX5_count := by decide +kernel
theorem iw_X5_count_X4 : ∀ w ∈ wsX40, w ∈ wsX5_count := by decide +kernel
theorem fl_X5_count_44 : Cond.fieldLink RX5 44 "CellsInRow" "sheets" "[LCellsInRow$Sheet;" ∈ wsX5_count := by decide +kernel
theorem fl_X5_count_243 : Cond.fieldLink RX5 243 "CellsInRow$Sheet" "there" "Z" ∈ wsX5_count := by decide +kernel
theorem iw_X5_count_X3 : ∀ w ∈ wsX30, w ∈ wsX5_count := by decide +kernel
theorem fl_X5_count_244 : Cond.fieldLink RX5 244 "CellsInRow$Sheet" "length" "I" ∈ wsX5_count := by decide +kernel
theorem fl_X5_count_19 : Cond.fieldLink RX5 19 "CellsInRow" "now" "LCellsInRow$Row;" ∈ wsX5_count := by decide +kernel
set_option maxHeartbeats 4000000 in
set_option maxRecDepth 100000 in
theorem t_X5_count_65 {G : jX} {D : va_G} {x0 p0 n0 o0 t0 s0 im0 sh0 cr0 nKindA nRoomA nChargeA nLeakA nPlanA h0 hPlacesA pBytesA i0 iw0 iz0 j0 jw0 jz0 sHourA sCellA sValueA : Nat} {shF : Nat → Option Nat} {imF : Nat → Option Nat} {u0 : Int32} {xLatestTorn : Int32} {nCells : Int32} {nSigns : Int32} {nHour : Int32} {nStops : Int32} {nWaste : Int32} {nDone : Int32} {nBridged : Int32} {nKind : Nat → Int32} {nRoom : Nat → Int32} {nCharge : Nat → Int32} {nLeak : Nat → Int32} {nPlan : Nat → Int32} {hThere : Int32} {hLane : Int32} {hLength : Int32} {hPlaces : Nat → Int32} {pLength : Int32} {pLatestFault : Int32} {pPlace : Int32} {pToken : Int32} {pFrom : Int32} {pNumber : Int32} {pPlanned : Int32} {pBytes : Nat → Int32} {iThere : Int32} {jThere : Int32} {sSize : Int32} {sHour : Nat → Int32} {sCell : Nat → Int32} {sValue : Nat → Int32} {oR : Int32} (C : KC G D cX5_count RX5 wsX5_count ({ frames := 1, cells := 0, slots := 0, locals := 22 } : Room) 2 (some .int) (some (.int oR)) [(x0, .inr (5, [.ref p0, .ref n0, .ref o0, .ref t0, .ref s0, .ref im0, .ref sh0, .ref cr0, .int xLatestTorn])), (n0, .inr (1, [.int nCells, .int nSigns, .int nHour, .int nStops, .int nWaste, .int nDone, .int nBridged, .ref nKindA, .ref nRoomA, .ref nChargeA, .ref nLeakA, .ref nPlanA])), (nKindA, .inl (D.1 7, 5, .inl nKind)), (nRoomA, .inl (D.1 7, 5, .inl nRoom)), (nChargeA, .inl (D.1 7, 5, .inl nCharge)), (nLeakA, .inl (D.1 7, 5, .inl nLeak)), (nPlanA, .inl (D.1 7, 16, .inl nPlan)), (sh0, .inl (D.1 10, 4, .inr (.inr (.inr (.inr shF))))), (h0, .inr (3, [.int hThere, .int hLane, .int hLength, .ref hPlacesA])), (hPlacesA, .inl (D.1 7, 40, .inl hPlaces)), (p0, .inr (4, [.int pLength, .int pLatestFault, .ref pBytesA, .int pPlace, .int pToken, .int pFrom, .int pNumber, .int pPlanned])), (pBytesA, .inl (D.1 7, 160, .inl pBytes)), (im0, .inl (D.1 9, 2, .inr (.inr (.inr (.inr imF))))), (i0, .inr (0, [.int iThere, .ref iw0, .ref iz0])), (j0, .inr (0, [.int jThere, .ref jw0, .ref jz0])), (s0, .inr (2, [.int sSize, .ref sHourA, .ref sCellA, .ref sValueA])), (sHourA, .inl (D.1 7, 6, .inl sHour)), (sCellA, .inl (D.1 7, 6, .inl sCell)), (sValueA, .inl (D.1 7, 6, .inl sValue))]) (hE_sh0 : shF 0 = some h0) (hE_im0 : imF 0 = some i0) (hE_im1 : imF 1 = some j0) (hf : f_X5_count_65 u0 nCells nSigns nRoom nPlan hThere hLength pLength iThere jThere sSize = some oR) : JW G D 65 [(0, .ref x0)] [.int u0] [(x0, .inr (5, [.ref p0, .ref n0, .ref o0, .ref t0, .ref s0, .ref im0, .ref sh0, .ref cr0, .int xLatestTorn])), (n0, .inr (1, [.int nCells, .int nSigns, .int nHour, .int nStops, .int nWaste, .int nDone, .int nBridged, .ref nKindA, .ref nRoomA, .ref nChargeA, .ref nLeakA, .ref nPlanA])), (nKindA, .inl (D.1 7, 5, .inl nKind)), (nRoomA, .inl (D.1 7, 5, .inl nRoom)), (nChargeA, .inl (D.1 7, 5, .inl nCharge)), (nLeakA, .inl (D.1 7, 5, .inl nLeak)), (nPlanA, .inl (D.1 7, 16, .inl nPlan)), (sh0, .inl (D.1 10, 4, .inr (.inr (.inr (.inr shF))))), (h0, .inr (3, [.int hThere, .int hLane, .int hLength, .ref hPlacesA])), (hPlacesA, .inl (D.1 7, 40, .inl hPlaces)), (p0, .inr (4, [.int pLength, .int pLatestFault, .ref pBytesA, .int pPlace, .int pToken, .int pFrom, .int pNumber, .int pPlanned])), (pBytesA, .inl (D.1 7, 160, .inl pBytes)), (im0, .inl (D.1 9, 2, .inr (.inr (.inr (.inr imF))))), (i0, .inr (0, [.int iThere, .ref iw0, .ref iz0])), (j0, .inr (0, [.int jThere, .ref jw0, .ref jz0])), (s0, .inr (2, [.int sSize, .ref sHourA, .ref sCellA, .ref sValueA])), (sHourA, .inl (D.1 7, 6, .inl sHour)), (sCellA, .inl (D.1 7, 6, .inl sCell)), (sValueA, .inl (D.1 7, 6, .inl sValue))] := by
  unfold f_X5_count_65 at hf
  refine j_aload_n (pc := 65) C 0 rfl dX5_count_65 ?_
  refine j_get (pc := 66) 0 5 5 C iw_X5_count_X5 rfl rfl (by decide) fl_X5_count_38 rfl rfl dX5_count_66 ?_
  refine j_iconst (pc := 69) 1 C (by decide) dX5_count_69 ?_
  refine j_aald (pc := 70) (t := 2) 12 C rfl rfl hf (fun _ => hE_im1) dX5_count_70 (fun hf => ?_)
  refine j_get (pc := 71) 14 0 0 C iw_X5_count_X0 rfl rfl (by decide) fl_X5_count_77 rfl rfl dX5_count_71 ?_
  refine j_if_eq (pc := 74) 81 C hf (by decide) dX5_count_74 (fun hf => ?_) (fun hf => ?_)
  · refine j_iconst (pc := 81) 0 C (by decide) dX5_count_81 ?_
    refine j_iadd (pc := 82) C dX5_count_82 ?_
    obtain rfl := si1 hf
    exact j_iret (pc := 83) C dX5_count_83
  · refine j_iconst (pc := 77) 1 C (by decide) dX5_count_77 ?_
    refine j_goto (pc := 78) 82 C (by decide) dX5_count_78 ?_
    refine j_iadd (pc := 82) C dX5_count_82 ?_
    obtain rfl := si1 hf
    exact j_iret (pc := 83) C dX5_count_83
set_option maxHeartbeats 4000000 in
set_option maxRecDepth 100000 in
theorem t_X5_count_0 {G : jX} {D : va_G} {x0 p0 n0 o0 t0 s0 im0 sh0 cr0 nKindA nRoomA nChargeA nLeakA nPlanA h0 hPlacesA pBytesA i0 iw0 iz0 j0 jw0 jz0 sHourA sCellA sValueA : Nat} {shF : Nat → Option Nat} {imF : Nat → Option Nat} {v1 : Int32} {xLatestTorn : Int32} {nCells : Int32} {nSigns : Int32} {nHour : Int32} {nStops : Int32} {nWaste : Int32} {nDone : Int32} {nBridged : Int32} {nKind : Nat → Int32} {nRoom : Nat → Int32} {nCharge : Nat → Int32} {nLeak : Nat → Int32} {nPlan : Nat → Int32} {hThere : Int32} {hLane : Int32} {hLength : Int32} {hPlaces : Nat → Int32} {pLength : Int32} {pLatestFault : Int32} {pPlace : Int32} {pToken : Int32} {pFrom : Int32} {pNumber : Int32} {pPlanned : Int32} {pBytes : Nat → Int32} {iThere : Int32} {jThere : Int32} {sSize : Int32} {sHour : Nat → Int32} {sCell : Nat → Int32} {sValue : Nat → Int32} {oR : Int32} (C : KC G D cX5_count RX5 wsX5_count ({ frames := 1, cells := 0, slots := 0, locals := 22 } : Room) 2 (some .int) (some (.int oR)) [(x0, .inr (5, [.ref p0, .ref n0, .ref o0, .ref t0, .ref s0, .ref im0, .ref sh0, .ref cr0, .int xLatestTorn])), (n0, .inr (1, [.int nCells, .int nSigns, .int nHour, .int nStops, .int nWaste, .int nDone, .int nBridged, .ref nKindA, .ref nRoomA, .ref nChargeA, .ref nLeakA, .ref nPlanA])), (nKindA, .inl (D.1 7, 5, .inl nKind)), (nRoomA, .inl (D.1 7, 5, .inl nRoom)), (nChargeA, .inl (D.1 7, 5, .inl nCharge)), (nLeakA, .inl (D.1 7, 5, .inl nLeak)), (nPlanA, .inl (D.1 7, 16, .inl nPlan)), (sh0, .inl (D.1 10, 4, .inr (.inr (.inr (.inr shF))))), (h0, .inr (3, [.int hThere, .int hLane, .int hLength, .ref hPlacesA])), (hPlacesA, .inl (D.1 7, 40, .inl hPlaces)), (p0, .inr (4, [.int pLength, .int pLatestFault, .ref pBytesA, .int pPlace, .int pToken, .int pFrom, .int pNumber, .int pPlanned])), (pBytesA, .inl (D.1 7, 160, .inl pBytes)), (im0, .inl (D.1 9, 2, .inr (.inr (.inr (.inr imF))))), (i0, .inr (0, [.int iThere, .ref iw0, .ref iz0])), (j0, .inr (0, [.int jThere, .ref jw0, .ref jz0])), (s0, .inr (2, [.int sSize, .ref sHourA, .ref sCellA, .ref sValueA])), (sHourA, .inl (D.1 7, 6, .inl sHour)), (sCellA, .inl (D.1 7, 6, .inl sCell)), (sValueA, .inl (D.1 7, 6, .inl sValue))]) (hE_sh0 : shF 0 = some h0) (hE_im0 : imF 0 = some i0) (hE_im1 : imF 1 = some j0) (hf : f_X5_count v1 nCells nSigns nRoom nPlan hThere hLength pLength iThere jThere sSize = some oR) : JW G D 0 [(0, .ref x0), (1, .int v1)] [] [(x0, .inr (5, [.ref p0, .ref n0, .ref o0, .ref t0, .ref s0, .ref im0, .ref sh0, .ref cr0, .int xLatestTorn])), (n0, .inr (1, [.int nCells, .int nSigns, .int nHour, .int nStops, .int nWaste, .int nDone, .int nBridged, .ref nKindA, .ref nRoomA, .ref nChargeA, .ref nLeakA, .ref nPlanA])), (nKindA, .inl (D.1 7, 5, .inl nKind)), (nRoomA, .inl (D.1 7, 5, .inl nRoom)), (nChargeA, .inl (D.1 7, 5, .inl nCharge)), (nLeakA, .inl (D.1 7, 5, .inl nLeak)), (nPlanA, .inl (D.1 7, 16, .inl nPlan)), (sh0, .inl (D.1 10, 4, .inr (.inr (.inr (.inr shF))))), (h0, .inr (3, [.int hThere, .int hLane, .int hLength, .ref hPlacesA])), (hPlacesA, .inl (D.1 7, 40, .inl hPlaces)), (p0, .inr (4, [.int pLength, .int pLatestFault, .ref pBytesA, .int pPlace, .int pToken, .int pFrom, .int pNumber, .int pPlanned])), (pBytesA, .inl (D.1 7, 160, .inl pBytes)), (im0, .inl (D.1 9, 2, .inr (.inr (.inr (.inr imF))))), (i0, .inr (0, [.int iThere, .ref iw0, .ref iz0])), (j0, .inr (0, [.int jThere, .ref jw0, .ref jz0])), (s0, .inr (2, [.int sSize, .ref sHourA, .ref sCellA, .ref sValueA])), (sHourA, .inl (D.1 7, 6, .inl sHour)), (sCellA, .inl (D.1 7, 6, .inl sCell)), (sValueA, .inl (D.1 7, 6, .inl sValue))] := by
  unfold f_X5_count at hf
  refine j_iload_n (pc := 0) C 1 rfl dX5_count_0 ?_
  by_cases c0 : v1 = 0
  · replace hf := (if_pos c0).symm.trans hf
    refine j_tbl (pc := 1) 40 0 C (by rw [c0]; rfl) (by decide) rfl (by decide) dX5_count_1 ?_
    refine j_aload_n (pc := 40) C 0 rfl dX5_count_40 ?_
    refine j_get (pc := 41) 0 5 4 C iw_X5_count_X5 rfl rfl (by decide) fl_X5_count_32 rfl rfl dX5_count_41 ?_
    refine j_get (pc := 44) 15 2 0 C iw_X5_count_X2 rfl rfl (by decide) fl_X5_count_74 rfl rfl dX5_count_44 ?_
    obtain rfl := si1 hf
    exact j_iret (pc := 47) C dX5_count_47
  replace hf := (if_neg c0).symm.trans hf
  by_cases c1 : v1 = 1
  · replace hf := (if_pos c1).symm.trans hf
    refine j_tbl (pc := 1) 48 1 C (by rw [c1]; rfl) (by decide) rfl (by decide) dX5_count_1 ?_
    refine j_aload_n (pc := 48) C 0 rfl dX5_count_48 ?_
    refine j_get (pc := 49) 0 5 5 C iw_X5_count_X5 rfl rfl (by decide) fl_X5_count_38 rfl rfl dX5_count_49 ?_
    refine j_iconst (pc := 52) 0 C (by decide) dX5_count_52 ?_
    refine j_aald (pc := 53) (t := 2) 12 C rfl rfl hf (fun _ => hE_im0) dX5_count_53 (fun hf => ?_)
    refine j_get (pc := 54) 13 0 0 C iw_X5_count_X0 rfl rfl (by decide) fl_X5_count_77 rfl rfl dX5_count_54 ?_
    refine j_if_eq (pc := 57) 64 C hf (by decide) dX5_count_57 (fun hf => ?_) (fun hf => ?_)
    · refine j_iconst (pc := 64) 0 C (by decide) dX5_count_64 ?_
      refine j_lv [(0, .ref x0)] [0] rfl ?_
      exact t_X5_count_65 C hE_sh0 hE_im0 hE_im1 hf
    · refine j_iconst (pc := 60) 1 C (by decide) dX5_count_60 ?_
      refine j_goto (pc := 61) 65 C (by decide) dX5_count_61 ?_
      refine j_lv [(0, .ref x0)] [0] rfl ?_
      exact t_X5_count_65 C hE_sh0 hE_im0 hE_im1 hf
  replace hf := (if_neg c1).symm.trans hf
  by_cases c2 : v1 = 2
  · replace hf := (if_pos c2).symm.trans hf
    refine j_tbl (pc := 1) 84 2 C (by rw [c2]; rfl) (by decide) rfl (by decide) dX5_count_1 ?_
    refine j_aload_n (pc := 84) C 0 rfl dX5_count_84 ?_
    refine j_get (pc := 85) 0 5 0 C iw_X5_count_X5 rfl rfl (by decide) fl_X5_count_10 rfl rfl dX5_count_85 ?_
    refine j_get (pc := 88) 10 4 0 C iw_X5_count_X4 rfl rfl (by decide) fl_X5_count_59 rfl rfl dX5_count_88 ?_
    obtain rfl := si1 hf
    exact j_iret (pc := 91) C dX5_count_91
  replace hf := (if_neg c2).symm.trans hf
  by_cases c3 : v1 = 3
  · replace hf := (if_pos c3).symm.trans hf
    refine j_tbl (pc := 1) 92 3 C (by rw [c3]; rfl) (by decide) rfl (by decide) dX5_count_1 ?_
    refine j_aload_n (pc := 92) C 0 rfl dX5_count_92 ?_
    refine j_get (pc := 93) 0 5 6 C iw_X5_count_X5 rfl rfl (by decide) fl_X5_count_44 rfl rfl dX5_count_93 ?_
    refine j_iconst (pc := 96) 0 C (by decide) dX5_count_96 ?_
    refine j_aald (pc := 97) (t := 3) 7 C rfl rfl hf (fun _ => hE_sh0) dX5_count_97 (fun hf => ?_)
    refine j_get (pc := 98) 8 3 0 C iw_X5_count_X3 rfl rfl (by decide) fl_X5_count_243 rfl rfl dX5_count_98 ?_
    refine j_if_eq (pc := 101) 116 C hf (by decide) dX5_count_101 (fun hf => ?_) (fun hf => ?_)
    · refine j_bipush (pc := 116) (-4) C (by decide) dX5_count_116 ?_
      obtain rfl := si1 hf
      exact j_iret (pc := 118) C dX5_count_118
    · refine j_aload_n (pc := 104) C 0 rfl dX5_count_104 ?_
      refine j_get (pc := 105) 0 5 6 C iw_X5_count_X5 rfl rfl (by decide) fl_X5_count_44 rfl rfl dX5_count_105 ?_
      refine j_iconst (pc := 108) 0 C (by decide) dX5_count_108 ?_
      refine j_aald (pc := 109) (t := 3) 7 C rfl rfl hf (fun _ => hE_sh0) dX5_count_109 (fun hf => ?_)
      refine j_get (pc := 110) 8 3 2 C iw_X5_count_X3 rfl rfl (by decide) fl_X5_count_244 rfl rfl dX5_count_110 ?_
      refine j_goto (pc := 113) 118 C (by decide) dX5_count_113 ?_
      obtain rfl := si1 hf
      exact j_iret (pc := 118) C dX5_count_118
  replace hf := (if_neg c3).symm.trans hf
  by_cases c4 : v1 = 4
  · replace hf := (if_pos c4).symm.trans hf
    refine j_tbl (pc := 1) 119 4 C (by rw [c4]; rfl) (by decide) rfl (by decide) dX5_count_1 ?_
    refine j_aload_n (pc := 119) C 0 rfl dX5_count_119 ?_
    refine j_get (pc := 120) 0 5 1 C iw_X5_count_X5 rfl rfl (by decide) fl_X5_count_19 rfl rfl dX5_count_120 ?_
    obtain ⟨a_1, hu, hf⟩ := ob1_some hf
    refine j_callV (pc := 123) (N := 19) (qr := 1) (ci := 1) [] [] [.ref n0] [.int a_1] [(x0, .inr (5, [.ref p0, .ref n0, .ref o0, .ref t0, .ref s0, .ref im0, .ref sh0, .ref cr0, .int xLatestTorn])), (n0, .inr (1, [.int nCells, .int nSigns, .int nHour, .int nStops, .int nWaste, .int nDone, .int nBridged, .ref nKindA, .ref nRoomA, .ref nChargeA, .ref nLeakA, .ref nPlanA])), (nKindA, .inl (D.1 7, 5, .inl nKind)), (nRoomA, .inl (D.1 7, 5, .inl nRoom)), (nChargeA, .inl (D.1 7, 5, .inl nCharge)), (nLeakA, .inl (D.1 7, 5, .inl nLeak)), (nPlanA, .inl (D.1 7, 16, .inl nPlan)), (sh0, .inl (D.1 10, 4, .inr (.inr (.inr (.inr shF))))), (h0, .inr (3, [.int hThere, .int hLane, .int hLength, .ref hPlacesA])), (hPlacesA, .inl (D.1 7, 40, .inl hPlaces)), (p0, .inr (4, [.int pLength, .int pLatestFault, .ref pBytesA, .int pPlace, .int pToken, .int pFrom, .int pNumber, .int pPlanned])), (pBytesA, .inl (D.1 7, 160, .inl pBytes)), (im0, .inl (D.1 9, 2, .inr (.inr (.inr (.inr imF))))), (i0, .inr (0, [.int iThere, .ref iw0, .ref iz0])), (j0, .inr (0, [.int jThere, .ref jw0, .ref jz0])), (s0, .inr (2, [.int sSize, .ref sHourA, .ref sCellA, .ref sValueA])), (sHourA, .inl (D.1 7, 6, .inl sHour)), (sCellA, .inl (D.1 7, 6, .inl sCell)), (sValueA, .inl (D.1 7, 6, .inl sValue))] [(x0, .inr (5, [.ref p0, .ref n0, .ref o0, .ref t0, .ref s0, .ref im0, .ref sh0, .ref cr0, .int xLatestTorn])), (sh0, .inl (D.1 10, 4, .inr (.inr (.inr (.inr shF))))), (h0, .inr (3, [.int hThere, .int hLane, .int hLength, .ref hPlacesA])), (hPlacesA, .inl (D.1 7, 40, .inl hPlaces)), (p0, .inr (4, [.int pLength, .int pLatestFault, .ref pBytesA, .int pPlace, .int pToken, .int pFrom, .int pNumber, .int pPlanned])), (pBytesA, .inl (D.1 7, 160, .inl pBytes)), (im0, .inl (D.1 9, 2, .inr (.inr (.inr (.inr imF))))), (i0, .inr (0, [.int iThere, .ref iw0, .ref iz0])), (j0, .inr (0, [.int jThere, .ref jw0, .ref jz0])), (s0, .inr (2, [.int sSize, .ref sHourA, .ref sCellA, .ref sValueA])), (sHourA, .inl (D.1 7, 6, .inl sHour)), (sCellA, .inl (D.1 7, 6, .inl sCell)), (sValueA, .inl (D.1 7, 6, .inl sValue))] [x0, n0, nKindA, nRoomA, nChargeA, nLeakA, nPlanA, sh0, h0, hPlacesA, p0, pBytesA, im0, i0, j0, s0, sHourA, sCellA, sValueA] [1, 2, 3, 4, 5, 6] [0, 7, 8, 9, 10, 11, 12, 13, 14, 15, 16, 17, 18] C (c_X1_roomsSummed D n0 nKindA nRoomA nChargeA nLeakA nPlanA nCells nSigns nHour nStops nWaste nDone nBridged nKind nRoom nCharge nLeak nPlan a_1 hu) k_X1_roomsSummed gX5_count_X1_roomsSummed ⟨rfl, rfl⟩ ⟨Nat.le_of_ble_eq_true rfl, Nat.le_of_ble_eq_true rfl⟩ rfl rfl rfl rfl rfl rfl (Nat.le_of_ble_eq_true rfl) rfl rfl rfl rfl (by decide) (by decide) (by decide) rfl rfl rfl dX5_count_123 ?_
    obtain rfl := si1 hf
    exact j_iret (pc := 126) C dX5_count_126
  replace hf := (if_neg c4).symm.trans hf
  by_cases c5 : v1 = 5
  · replace hf := (if_pos c5).symm.trans hf
    refine j_tbl (pc := 1) 127 5 C (by rw [c5]; rfl) (by decide) rfl (by decide) dX5_count_1 ?_
    refine j_aload_n (pc := 127) C 0 rfl dX5_count_127 ?_
    refine j_get (pc := 128) 0 5 1 C iw_X5_count_X5 rfl rfl (by decide) fl_X5_count_19 rfl rfl dX5_count_128 ?_
    obtain ⟨a_2, hu, hf⟩ := ob1_some hf
    refine j_callV (pc := 131) (N := 19) (qr := 1) (ci := 1) [] [] [.ref n0] [.int a_2] [(x0, .inr (5, [.ref p0, .ref n0, .ref o0, .ref t0, .ref s0, .ref im0, .ref sh0, .ref cr0, .int xLatestTorn])), (n0, .inr (1, [.int nCells, .int nSigns, .int nHour, .int nStops, .int nWaste, .int nDone, .int nBridged, .ref nKindA, .ref nRoomA, .ref nChargeA, .ref nLeakA, .ref nPlanA])), (nKindA, .inl (D.1 7, 5, .inl nKind)), (nRoomA, .inl (D.1 7, 5, .inl nRoom)), (nChargeA, .inl (D.1 7, 5, .inl nCharge)), (nLeakA, .inl (D.1 7, 5, .inl nLeak)), (nPlanA, .inl (D.1 7, 16, .inl nPlan)), (sh0, .inl (D.1 10, 4, .inr (.inr (.inr (.inr shF))))), (h0, .inr (3, [.int hThere, .int hLane, .int hLength, .ref hPlacesA])), (hPlacesA, .inl (D.1 7, 40, .inl hPlaces)), (p0, .inr (4, [.int pLength, .int pLatestFault, .ref pBytesA, .int pPlace, .int pToken, .int pFrom, .int pNumber, .int pPlanned])), (pBytesA, .inl (D.1 7, 160, .inl pBytes)), (im0, .inl (D.1 9, 2, .inr (.inr (.inr (.inr imF))))), (i0, .inr (0, [.int iThere, .ref iw0, .ref iz0])), (j0, .inr (0, [.int jThere, .ref jw0, .ref jz0])), (s0, .inr (2, [.int sSize, .ref sHourA, .ref sCellA, .ref sValueA])), (sHourA, .inl (D.1 7, 6, .inl sHour)), (sCellA, .inl (D.1 7, 6, .inl sCell)), (sValueA, .inl (D.1 7, 6, .inl sValue))] [(x0, .inr (5, [.ref p0, .ref n0, .ref o0, .ref t0, .ref s0, .ref im0, .ref sh0, .ref cr0, .int xLatestTorn])), (sh0, .inl (D.1 10, 4, .inr (.inr (.inr (.inr shF))))), (h0, .inr (3, [.int hThere, .int hLane, .int hLength, .ref hPlacesA])), (hPlacesA, .inl (D.1 7, 40, .inl hPlaces)), (p0, .inr (4, [.int pLength, .int pLatestFault, .ref pBytesA, .int pPlace, .int pToken, .int pFrom, .int pNumber, .int pPlanned])), (pBytesA, .inl (D.1 7, 160, .inl pBytes)), (im0, .inl (D.1 9, 2, .inr (.inr (.inr (.inr imF))))), (i0, .inr (0, [.int iThere, .ref iw0, .ref iz0])), (j0, .inr (0, [.int jThere, .ref jw0, .ref jz0])), (s0, .inr (2, [.int sSize, .ref sHourA, .ref sCellA, .ref sValueA])), (sHourA, .inl (D.1 7, 6, .inl sHour)), (sCellA, .inl (D.1 7, 6, .inl sCell)), (sValueA, .inl (D.1 7, 6, .inl sValue))] [x0, n0, nKindA, nRoomA, nChargeA, nLeakA, nPlanA, sh0, h0, hPlacesA, p0, pBytesA, im0, i0, j0, s0, sHourA, sCellA, sValueA] [1, 2, 3, 4, 5, 6] [0, 7, 8, 9, 10, 11, 12, 13, 14, 15, 16, 17, 18] C (c_X1_signsSummed D n0 nKindA nRoomA nChargeA nLeakA nPlanA nCells nSigns nHour nStops nWaste nDone nBridged nKind nRoom nCharge nLeak nPlan a_2 hu) k_X1_signsSummed gX5_count_X1_signsSummed ⟨rfl, rfl⟩ ⟨Nat.le_of_ble_eq_true rfl, Nat.le_of_ble_eq_true rfl⟩ rfl rfl rfl rfl rfl rfl (Nat.le_of_ble_eq_true rfl) rfl rfl rfl rfl (by decide) (by decide) (by decide) rfl rfl rfl dX5_count_131 ?_
    obtain rfl := si1 hf
    exact j_iret (pc := 134) C dX5_count_134
  replace hf := (if_neg c5).symm.trans hf
  have e0 := lv_neT (a := 0) c0 (by decide)
  have e1 := lv_neT (a := 1) c1 (by decide)
  have e2 := lv_neT (a := 2) c2 (by decide)
  have e3 := lv_neT (a := 3) c3 (by decide)
  have e4 := lv_neT (a := 4) c4 (by decide)
  have e5 := lv_neT (a := 5) c5 (by decide)
  refine j_tbd (pc := 1) 135 C (by omega) (by decide) dX5_count_1 ?_
  refine j_iconst (pc := 135) (-1) C (by decide) dX5_count_135 ?_
  obtain rfl := si1 hf
  exact j_iret (pc := 136) C dX5_count_136
theorem k_X5_count : CK yX5_count wsX5_count cX5_count 2 (some .int) 1 := ⟨rfl, by decide +kernel⟩
theorem c_X5_count (D : va_G) (x0 p0 n0 o0 t0 s0 im0 sh0 cr0 nKindA nRoomA nChargeA nLeakA nPlanA h0 hPlacesA pBytesA i0 iw0 iz0 j0 jw0 jz0 sHourA sCellA sValueA : Nat) (shF : Nat → Option Nat) (imF : Nat → Option Nat) (v1 : Int32) (xLatestTorn : Int32) (nCells : Int32) (nSigns : Int32) (nHour : Int32) (nStops : Int32) (nWaste : Int32) (nDone : Int32) (nBridged : Int32) (nKind : Nat → Int32) (nRoom : Nat → Int32) (nCharge : Nat → Int32) (nLeak : Nat → Int32) (nPlan : Nat → Int32) (hThere : Int32) (hLane : Int32) (hLength : Int32) (hPlaces : Nat → Int32) (pLength : Int32) (pLatestFault : Int32) (pPlace : Int32) (pToken : Int32) (pFrom : Int32) (pNumber : Int32) (pPlanned : Int32) (pBytes : Nat → Int32) (iThere : Int32) (jThere : Int32) (sSize : Int32) (sHour : Nat → Int32) (sCell : Nat → Int32) (sValue : Nat → Int32) (oR : Int32) (hE_sh0 : shF 0 = some h0) (hE_im0 : imF 0 = some i0) (hE_im1 : imF 1 = some j0) (hf : f_X5_count v1 nCells nSigns nRoom nPlan hThere hLength pLength iThere jThere sSize = some oR) : ∀ l, MW l yX5_count wsX5_count ({ frames := 1, cells := 0, slots := 0, locals := 22 } : Room) D [.ref x0, .int v1] [(x0, .inr (5, [.ref p0, .ref n0, .ref o0, .ref t0, .ref s0, .ref im0, .ref sh0, .ref cr0, .int xLatestTorn])), (n0, .inr (1, [.int nCells, .int nSigns, .int nHour, .int nStops, .int nWaste, .int nDone, .int nBridged, .ref nKindA, .ref nRoomA, .ref nChargeA, .ref nLeakA, .ref nPlanA])), (nKindA, .inl (D.1 7, 5, .inl nKind)), (nRoomA, .inl (D.1 7, 5, .inl nRoom)), (nChargeA, .inl (D.1 7, 5, .inl nCharge)), (nLeakA, .inl (D.1 7, 5, .inl nLeak)), (nPlanA, .inl (D.1 7, 16, .inl nPlan)), (sh0, .inl (D.1 10, 4, .inr (.inr (.inr (.inr shF))))), (h0, .inr (3, [.int hThere, .int hLane, .int hLength, .ref hPlacesA])), (hPlacesA, .inl (D.1 7, 40, .inl hPlaces)), (p0, .inr (4, [.int pLength, .int pLatestFault, .ref pBytesA, .int pPlace, .int pToken, .int pFrom, .int pNumber, .int pPlanned])), (pBytesA, .inl (D.1 7, 160, .inl pBytes)), (im0, .inl (D.1 9, 2, .inr (.inr (.inr (.inr imF))))), (i0, .inr (0, [.int iThere, .ref iw0, .ref iz0])), (j0, .inr (0, [.int jThere, .ref jw0, .ref jz0])), (s0, .inr (2, [.int sSize, .ref sHourA, .ref sCellA, .ref sValueA])), (sHourA, .inl (D.1 7, 6, .inl sHour)), (sCellA, .inl (D.1 7, 6, .inl sCell)), (sValueA, .inl (D.1 7, 6, .inl sValue))] (some (.int oR)) [(x0, .inr (5, [.ref p0, .ref n0, .ref o0, .ref t0, .ref s0, .ref im0, .ref sh0, .ref cr0, .int xLatestTorn])), (n0, .inr (1, [.int nCells, .int nSigns, .int nHour, .int nStops, .int nWaste, .int nDone, .int nBridged, .ref nKindA, .ref nRoomA, .ref nChargeA, .ref nLeakA, .ref nPlanA])), (nKindA, .inl (D.1 7, 5, .inl nKind)), (nRoomA, .inl (D.1 7, 5, .inl nRoom)), (nChargeA, .inl (D.1 7, 5, .inl nCharge)), (nLeakA, .inl (D.1 7, 5, .inl nLeak)), (nPlanA, .inl (D.1 7, 16, .inl nPlan)), (sh0, .inl (D.1 10, 4, .inr (.inr (.inr (.inr shF))))), (h0, .inr (3, [.int hThere, .int hLane, .int hLength, .ref hPlacesA])), (hPlacesA, .inl (D.1 7, 40, .inl hPlaces)), (p0, .inr (4, [.int pLength, .int pLatestFault, .ref pBytesA, .int pPlace, .int pToken, .int pFrom, .int pNumber, .int pPlanned])), (pBytesA, .inl (D.1 7, 160, .inl pBytes)), (im0, .inl (D.1 9, 2, .inr (.inr (.inr (.inr imF))))), (i0, .inr (0, [.int iThere, .ref iw0, .ref iz0])), (j0, .inr (0, [.int jThere, .ref jw0, .ref jz0])), (s0, .inr (2, [.int sSize, .ref sHourA, .ref sCellA, .ref sValueA])), (sHourA, .inl (D.1 7, 6, .inl sHour)), (sCellA, .inl (D.1 7, 6, .inl sCell)), (sValueA, .inl (D.1 7, 6, .inl sValue))] := j_met (cc := cX5_count) (nl := 2) (rt := (some .int)) (own := RX5) (lv := [(0, .ref x0), (1, .int v1)]) (by decide +kernel) rfl rfl rfl (Nat.le_of_ble_eq_true rfl) (fun G C => t_X5_count_0 C hE_sh0 hE_im0 hE_im1 hf)

