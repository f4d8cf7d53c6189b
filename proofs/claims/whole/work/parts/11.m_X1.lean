-- X1_passHour
theorem fl_X1_passHour_31 : Cond.fieldLink RX1 31 "CellsInRow$Row" "cells" "I" ∈ wsX1_passHour := by decide +kernel
theorem iw_X1_passHour_X1 : ∀ w ∈ wsX10, w ∈ wsX1_passHour := by decide +kernel
theorem fl_X1_passHour_37 : Cond.fieldLink RX1 37 "CellsInRow$Row" "hour" "I" ∈ wsX1_passHour := by decide +kernel
theorem fl_X1_passHour_22 : Cond.fieldLink RX1 22 "CellsInRow$Row" "charge" "[I" ∈ wsX1_passHour := by decide +kernel
theorem fl_X1_passHour_25 : Cond.fieldLink RX1 25 "CellsInRow$Row" "leak" "[I" ∈ wsX1_passHour := by decide +kernel
theorem mm_X1_passHour_max : Cond.methodLink RX1 95 Lib.Math.max.name ∈ wsX1_passHour ∧ Cond.static Lib.Math.max.name ∈ wsX1_passHour ∧ Cond.initialized "java/lang/Math" ∈ wsX1_passHour ∧ Cond.code Lib.Math.max.name Lib.Math.max.code 2 (some .int) ∈ wsX1_passHour := by decide +kernel
set_option maxHeartbeats 4000000 in
set_option maxRecDepth 100000 in
theorem t_X1_passHour_8 {G : jX} {D : va_G} {r0 rKindA rRoomA rChargeA rLeakA rPlanA : Nat} {v1 : Int32} {v2 : Int32} {rCells : Int32} {rSigns : Int32} {rHour : Int32} {rStops : Int32} {rWaste : Int32} {rDone : Int32} {rBridged : Int32} {rKind : Nat → Int32} {rRoom : Nat → Int32} {rLeak : Nat → Int32} {rPlan : Nat → Int32} {oR : Int32} {oRHour : Int32} {oRStops : Int32} {oRWaste : Int32} {oRDone : Int32} {oRCharge : Nat → Int32} (C : KC G D cX1_passHour RX1 wsX1_passHour ({ frames := 3, cells := 0, slots := 0, locals := 69 } : Room) 4 (some .int) (some (.int oR)) [(r0, .inr (1, [.int rCells, .int rSigns, .int oRHour, .int oRStops, .int oRWaste, .int oRDone, .int rBridged, .ref rKindA, .ref rRoomA, .ref rChargeA, .ref rLeakA, .ref rPlanA])), (rKindA, .inl (D.1 7, 5, .inl rKind)), (rRoomA, .inl (D.1 7, 5, .inl rRoom)), (rChargeA, .inl (D.1 7, 5, .inl oRCharge)), (rLeakA, .inl (D.1 7, 5, .inl rLeak)), (rPlanA, .inl (D.1 7, 16, .inl rPlan))]) : ∀ (n : Nat) (v3 : Int32) (rCharge : Nat → Int32), f_X1_passHour_8 v1 v2 rCells rHour rStops rWaste rDone rBridged rKind rRoom rLeak n v3 rCharge = some (oR, oRHour, oRStops, oRWaste, oRDone, oRCharge) → JW G D 8 [(0, .ref r0), (1, .int v1), (2, .int v2), (3, .int v3)] [] [(r0, .inr (1, [.int rCells, .int rSigns, .int rHour, .int rStops, .int rWaste, .int rDone, .int rBridged, .ref rKindA, .ref rRoomA, .ref rChargeA, .ref rLeakA, .ref rPlanA])), (rKindA, .inl (D.1 7, 5, .inl rKind)), (rRoomA, .inl (D.1 7, 5, .inl rRoom)), (rChargeA, .inl (D.1 7, 5, .inl rCharge)), (rLeakA, .inl (D.1 7, 5, .inl rLeak)), (rPlanA, .inl (D.1 7, 16, .inl rPlan))] := by
  intro n
  induction n with
  | zero => intro _ _ hf; rw [f_X1_passHour_8] at hf; cases hf
  | succ n ih =>
    intro v3 rCharge hf
    rw [f_X1_passHour_8] at hf
    refine j_iload_n (pc := 8) C 3 rfl dX1_passHour_8 ?_
    refine j_aload_n (pc := 9) C 0 rfl dX1_passHour_9 ?_
    refine j_get (pc := 10) 0 1 0 C iw_X1_passHour_X1 rfl rfl (by decide) fl_X1_passHour_31 rfl rfl dX1_passHour_10 ?_
    refine j_icmp_ge (pc := 13) 45 C hf (by decide) dX1_passHour_13 (fun hf => ?_) (fun hf => ?_)
    · refine j_aload_n (pc := 45) C 0 rfl dX1_passHour_45 ?_
      refine j_dup (pc := 46) C rfl dX1_passHour_46 ?_
      refine j_get (pc := 47) 0 1 2 C iw_X1_passHour_X1 rfl rfl (by decide) fl_X1_passHour_37 rfl rfl dX1_passHour_47 ?_
      refine j_iconst (pc := 50) 1 C (by decide) dX1_passHour_50 ?_
      refine j_iadd (pc := 51) C dX1_passHour_51 ?_
      refine j_put (pc := 52) (ty := .int) 0 1 2 [(r0, .inr (1, [.int rCells, .int rSigns, .int (rHour + 1), .int rStops, .int rWaste, .int rDone, .int rBridged, .ref rKindA, .ref rRoomA, .ref rChargeA, .ref rLeakA, .ref rPlanA])), (rKindA, .inl (D.1 7, 5, .inl rKind)), (rRoomA, .inl (D.1 7, 5, .inl rRoom)), (rChargeA, .inl (D.1 7, 5, .inl rCharge)), (rLeakA, .inl (D.1 7, 5, .inl rLeak)), (rPlanA, .inl (D.1 7, 16, .inl rPlan))] C iw_X1_passHour_X1 tyX1 tyX1_ok nmX1 rfl rfl (by decide) fl_X1_passHour_37 rfl rfl rfl rfl rfl (Nat.le_of_ble_eq_true rfl) rfl dX1_passHour_52 ?_
      refine j_iload_n (pc := 55) C 2 rfl dX1_passHour_55 ?_
      refine j_if_eq (pc := 56) 63 C hf (by decide) dX1_passHour_56 (fun hf => ?_) (fun hf => ?_)
      · refine j_aload_n (pc := 63) C 0 rfl dX1_passHour_63 ?_
        refine j_iload_n (pc := 64) C 1 rfl dX1_passHour_64 ?_
        obtain ⟨a_6, hu, hf⟩ := ob1_some hf
        refine j_callV (pc := 65) (N := 6) (qr := 0) (ci := 1) [.int v1] [] [.int v1, .ref r0] [.int a_6] [(r0, .inr (1, [.int rCells, .int rSigns, .int (rHour + 1), .int rStops, .int rWaste, .int rDone, .int rBridged, .ref rKindA, .ref rRoomA, .ref rChargeA, .ref rLeakA, .ref rPlanA])), (rKindA, .inl (D.1 7, 5, .inl rKind)), (rRoomA, .inl (D.1 7, 5, .inl rRoom)), (rChargeA, .inl (D.1 7, 5, .inl rCharge)), (rLeakA, .inl (D.1 7, 5, .inl rLeak)), (rPlanA, .inl (D.1 7, 16, .inl rPlan))] [] [r0, rKindA, rRoomA, rChargeA, rLeakA, rPlanA] [0, 1, 2, 3, 4, 5] [] C (c_X1_doneBy D r0 rKindA rRoomA rChargeA rLeakA rPlanA v1 rCells rSigns (rHour + 1) rStops rWaste rDone rBridged rKind rRoom rCharge rLeak rPlan a_6 hu) k_X1_doneBy gX1_passHour_X1_doneBy ⟨rfl, rfl⟩ ⟨Nat.le_of_ble_eq_true rfl, Nat.le_of_ble_eq_true rfl⟩ rfl rfl rfl rfl rfl rfl (Nat.le_of_ble_eq_true rfl) rfl rfl rfl rfl (by decide) (by decide) (by decide) rfl rfl rfl dX1_passHour_65 ?_
        obtain ⟨rfl, rfl, rfl, rfl, rfl, rfl⟩ := si6 hf
        exact j_iret (pc := 68) C dX1_passHour_68
      · refine j_iconst (pc := 59) 0 C (by decide) dX1_passHour_59 ?_
        refine j_goto (pc := 60) 68 C (by decide) dX1_passHour_60 ?_
        obtain ⟨rfl, rfl, rfl, rfl, rfl, rfl⟩ := si6 hf
        exact j_iret (pc := 68) C dX1_passHour_68
    · refine j_aload_n (pc := 16) C 0 rfl dX1_passHour_16 ?_
      refine j_get (pc := 17) 0 1 9 C iw_X1_passHour_X1 rfl rfl (by decide) fl_X1_passHour_22 rfl rfl dX1_passHour_17 ?_
      refine j_iload_n (pc := 20) C 3 rfl dX1_passHour_20 ?_
      refine j_iconst (pc := 21) 0 C (by decide) dX1_passHour_21 ?_
      refine j_aload_n (pc := 22) C 0 rfl dX1_passHour_22 ?_
      refine j_get (pc := 23) 0 1 9 C iw_X1_passHour_X1 rfl rfl (by decide) fl_X1_passHour_22 rfl rfl dX1_passHour_23 ?_
      refine j_iload_n (pc := 26) C 3 rfl dX1_passHour_26 ?_
      refine j_iald (pc := 27) 3 C rfl hf dX1_passHour_27 (fun hf => ?_)
      refine j_aload_n (pc := 28) C 0 rfl dX1_passHour_28 ?_
      refine j_get (pc := 29) 0 1 10 C iw_X1_passHour_X1 rfl rfl (by decide) fl_X1_passHour_25 rfl rfl dX1_passHour_29 ?_
      refine j_iload_n (pc := 32) C 3 rfl dX1_passHour_32 ?_
      refine j_iald (pc := 33) 4 C rfl hf dX1_passHour_33 (fun hf => ?_)
      refine j_isub (pc := 34) C dX1_passHour_34 ?_
      refine j_mmax (pc := 35) C mm_X1_passHour_max.1 mm_X1_passHour_max.2.1 mm_X1_passHour_max.2.2.1 mm_X1_passHour_max.2.2.2 (by decide) (Nat.le_of_ble_eq_true rfl) dX1_passHour_35 ?_
      refine j_iast (pc := 38) 3 [(r0, .inr (1, [.int rCells, .int rSigns, .int rHour, .int rStops, .int rWaste, .int rDone, .int rBridged, .ref rKindA, .ref rRoomA, .ref rChargeA, .ref rLeakA, .ref rPlanA])), (rKindA, .inl (D.1 7, 5, .inl rKind)), (rRoomA, .inl (D.1 7, 5, .inl rRoom)), (rChargeA, .inl (D.1 7, 5, .inl (upd rCharge v3.toNatClampNeg (if 0 < ((rCharge v3.toNatClampNeg) - (rLeak v3.toNatClampNeg)) then ((rCharge v3.toNatClampNeg) - (rLeak v3.toNatClampNeg)) else 0)))), (rLeakA, .inl (D.1 7, 5, .inl rLeak)), (rPlanA, .inl (D.1 7, 16, .inl rPlan))] C rfl rfl hf dX1_passHour_38 (fun hf => ?_)
      refine j_iinc (pc := 39) (v3 + 1) 3 3 [(0, .ref r0), (1, .int v1), (2, .int v2), (3, .int (v3 + 1))] [1, 2, 3, 0] C rfl (by rfl) (by decide) rfl dX1_passHour_39 ?_
      refine j_goto (pc := 42) 8 C (by decide) dX1_passHour_42 ?_
      exact ih _ _ hf
set_option maxHeartbeats 4000000 in
set_option maxRecDepth 100000 in
theorem t_X1_passHour_0 {G : jX} {D : va_G} {r0 rKindA rRoomA rChargeA rLeakA rPlanA : Nat} {v1 : Int32} {rCells : Int32} {rSigns : Int32} {rHour : Int32} {rStops : Int32} {rWaste : Int32} {rDone : Int32} {rBridged : Int32} {rKind : Nat → Int32} {rRoom : Nat → Int32} {rCharge : Nat → Int32} {rLeak : Nat → Int32} {rPlan : Nat → Int32} {oR : Int32} {oRHour : Int32} {oRStops : Int32} {oRWaste : Int32} {oRDone : Int32} {oRCharge : Nat → Int32} (C : KC G D cX1_passHour RX1 wsX1_passHour ({ frames := 3, cells := 0, slots := 0, locals := 69 } : Room) 4 (some .int) (some (.int oR)) [(r0, .inr (1, [.int rCells, .int rSigns, .int oRHour, .int oRStops, .int oRWaste, .int oRDone, .int rBridged, .ref rKindA, .ref rRoomA, .ref rChargeA, .ref rLeakA, .ref rPlanA])), (rKindA, .inl (D.1 7, 5, .inl rKind)), (rRoomA, .inl (D.1 7, 5, .inl rRoom)), (rChargeA, .inl (D.1 7, 5, .inl oRCharge)), (rLeakA, .inl (D.1 7, 5, .inl rLeak)), (rPlanA, .inl (D.1 7, 16, .inl rPlan))]) (hf : f_X1_passHour v1 rCells rHour rStops rWaste rDone rBridged rKind rRoom rCharge rLeak = some (oR, oRHour, oRStops, oRWaste, oRDone, oRCharge)) : JW G D 0 [(0, .ref r0), (1, .int v1)] [] [(r0, .inr (1, [.int rCells, .int rSigns, .int rHour, .int rStops, .int rWaste, .int rDone, .int rBridged, .ref rKindA, .ref rRoomA, .ref rChargeA, .ref rLeakA, .ref rPlanA])), (rKindA, .inl (D.1 7, 5, .inl rKind)), (rRoomA, .inl (D.1 7, 5, .inl rRoom)), (rChargeA, .inl (D.1 7, 5, .inl rCharge)), (rLeakA, .inl (D.1 7, 5, .inl rLeak)), (rPlanA, .inl (D.1 7, 16, .inl rPlan))] := by
  unfold f_X1_passHour at hf
  refine j_aload_n (pc := 0) C 0 rfl dX1_passHour_0 ?_
  refine j_iload_n (pc := 1) C 1 rfl dX1_passHour_1 ?_
  obtain ⟨a_1, rStops_2, rWaste_3, rDone_4, rCharge_5, hu, hf⟩ := ob5_some hf
  refine j_callV (pc := 2) (N := 6) (qr := 0) (ci := 1) [.int v1] [] [.int v1, .ref r0] [.int a_1] [(r0, .inr (1, [.int rCells, .int rSigns, .int rHour, .int rStops_2, .int rWaste_3, .int rDone_4, .int rBridged, .ref rKindA, .ref rRoomA, .ref rChargeA, .ref rLeakA, .ref rPlanA])), (rKindA, .inl (D.1 7, 5, .inl rKind)), (rRoomA, .inl (D.1 7, 5, .inl rRoom)), (rChargeA, .inl (D.1 7, 5, .inl rCharge_5)), (rLeakA, .inl (D.1 7, 5, .inl rLeak)), (rPlanA, .inl (D.1 7, 16, .inl rPlan))] [] [r0, rKindA, rRoomA, rChargeA, rLeakA, rPlanA] [0, 1, 2, 3, 4, 5] [] C (c_X1_stoppedBySending D r0 rKindA rRoomA rChargeA rLeakA rPlanA v1 rCells rSigns rHour rStops rWaste rDone rBridged rKind rRoom rCharge rLeak rPlan a_1 rStops_2 rWaste_3 rDone_4 rCharge_5 hu) k_X1_stoppedBySending gX1_passHour_X1_stoppedBySending ⟨rfl, rfl⟩ ⟨Nat.le_of_ble_eq_true rfl, Nat.le_of_ble_eq_true rfl⟩ rfl rfl rfl rfl rfl rfl (Nat.le_of_ble_eq_true rfl) rfl rfl rfl rfl (by decide) (by decide) (by decide) rfl rfl rfl dX1_passHour_2 ?_
  refine j_istore_n (pc := 5) 2 [(0, .ref r0), (1, .int v1), (2, .int a_1)] [1, 2, 0] C rfl (by decide) rfl dX1_passHour_5 ?_
  refine j_iconst (pc := 6) 0 C (by decide) dX1_passHour_6 ?_
  refine j_istore_n (pc := 7) 3 [(0, .ref r0), (1, .int v1), (2, .int a_1), (3, .int 0)] [1, 2, 3, 0] C rfl (by decide) rfl dX1_passHour_7 ?_
  exact t_X1_passHour_8 C 1000 _ _ hf
theorem k_X1_passHour : CK yX1_passHour wsX1_passHour cX1_passHour 4 (some .int) 1 := ⟨rfl, by decide +kernel⟩
theorem c_X1_passHour (D : va_G) (r0 rKindA rRoomA rChargeA rLeakA rPlanA : Nat) (v1 : Int32) (rCells : Int32) (rSigns : Int32) (rHour : Int32) (rStops : Int32) (rWaste : Int32) (rDone : Int32) (rBridged : Int32) (rKind : Nat → Int32) (rRoom : Nat → Int32) (rCharge : Nat → Int32) (rLeak : Nat → Int32) (rPlan : Nat → Int32) (oR : Int32) (oRHour : Int32) (oRStops : Int32) (oRWaste : Int32) (oRDone : Int32) (oRCharge : Nat → Int32) (hf : f_X1_passHour v1 rCells rHour rStops rWaste rDone rBridged rKind rRoom rCharge rLeak = some (oR, oRHour, oRStops, oRWaste, oRDone, oRCharge)) : ∀ l, MW l yX1_passHour wsX1_passHour ({ frames := 3, cells := 0, slots := 0, locals := 69 } : Room) D [.ref r0, .int v1] [(r0, .inr (1, [.int rCells, .int rSigns, .int rHour, .int rStops, .int rWaste, .int rDone, .int rBridged, .ref rKindA, .ref rRoomA, .ref rChargeA, .ref rLeakA, .ref rPlanA])), (rKindA, .inl (D.1 7, 5, .inl rKind)), (rRoomA, .inl (D.1 7, 5, .inl rRoom)), (rChargeA, .inl (D.1 7, 5, .inl rCharge)), (rLeakA, .inl (D.1 7, 5, .inl rLeak)), (rPlanA, .inl (D.1 7, 16, .inl rPlan))] (some (.int oR)) [(r0, .inr (1, [.int rCells, .int rSigns, .int oRHour, .int oRStops, .int oRWaste, .int oRDone, .int rBridged, .ref rKindA, .ref rRoomA, .ref rChargeA, .ref rLeakA, .ref rPlanA])), (rKindA, .inl (D.1 7, 5, .inl rKind)), (rRoomA, .inl (D.1 7, 5, .inl rRoom)), (rChargeA, .inl (D.1 7, 5, .inl oRCharge)), (rLeakA, .inl (D.1 7, 5, .inl rLeak)), (rPlanA, .inl (D.1 7, 16, .inl rPlan))] := j_met (cc := cX1_passHour) (nl := 4) (rt := (some .int)) (own := RX1) (lv := [(0, .ref r0), (1, .int v1)]) (by decide +kernel) rfl rfl rfl (Nat.le_of_ble_eq_true rfl) (fun G C => t_X1_passHour_0 C hf)

-- X1_passHours
set_option maxHeartbeats 4000000 in
set_option maxRecDepth 100000 in
theorem t_X1_passHours_4 {G : jX} {D : va_G} {r0 rKindA rRoomA rChargeA rLeakA rPlanA : Nat} {v1 : Int32} {rCells : Int32} {rSigns : Int32} {rBridged : Int32} {rKind : Nat → Int32} {rRoom : Nat → Int32} {rLeak : Nat → Int32} {rPlan : Nat → Int32} {oR : Int32} {oRHour : Int32} {oRStops : Int32} {oRWaste : Int32} {oRDone : Int32} {oRCharge : Nat → Int32} (C : KC G D cX1_passHours RX1 wsX1_passHours ({ frames := 4, cells := 0, slots := 0, locals := 92 } : Room) 4 (some .int) (some (.int oR)) [(r0, .inr (1, [.int rCells, .int rSigns, .int oRHour, .int oRStops, .int oRWaste, .int oRDone, .int rBridged, .ref rKindA, .ref rRoomA, .ref rChargeA, .ref rLeakA, .ref rPlanA])), (rKindA, .inl (D.1 7, 5, .inl rKind)), (rRoomA, .inl (D.1 7, 5, .inl rRoom)), (rChargeA, .inl (D.1 7, 5, .inl oRCharge)), (rLeakA, .inl (D.1 7, 5, .inl rLeak)), (rPlanA, .inl (D.1 7, 16, .inl rPlan))]) : ∀ (n : Nat) (v2 : Int32) (v3 : Int32) (rHour : Int32) (rStops : Int32) (rWaste : Int32) (rDone : Int32) (rCharge : Nat → Int32), f_X1_passHours_4 v1 rCells rSigns rBridged rKind rRoom rLeak rPlan n v2 v3 rHour rStops rWaste rDone rCharge = some (oR, oRHour, oRStops, oRWaste, oRDone, oRCharge) → JW G D 4 [(0, .ref r0), (1, .int v1), (2, .int v2), (3, .int v3)] [] [(r0, .inr (1, [.int rCells, .int rSigns, .int rHour, .int rStops, .int rWaste, .int rDone, .int rBridged, .ref rKindA, .ref rRoomA, .ref rChargeA, .ref rLeakA, .ref rPlanA])), (rKindA, .inl (D.1 7, 5, .inl rKind)), (rRoomA, .inl (D.1 7, 5, .inl rRoom)), (rChargeA, .inl (D.1 7, 5, .inl rCharge)), (rLeakA, .inl (D.1 7, 5, .inl rLeak)), (rPlanA, .inl (D.1 7, 16, .inl rPlan))] := by
  intro n
  induction n with
  | zero => intro _ _ _ _ _ _ _ hf; rw [f_X1_passHours_4] at hf; cases hf
  | succ n ih =>
    intro v2 v3 rHour rStops rWaste rDone rCharge hf
    rw [f_X1_passHours_4] at hf
    refine j_iload_n (pc := 4) C 3 rfl dX1_passHours_4 ?_
    refine j_iload_n (pc := 5) C 1 rfl dX1_passHours_5 ?_
    refine j_icmp_ge (pc := 6) 26 C hf (by decide) dX1_passHours_6 (fun hf => ?_) (fun hf => ?_)
    · refine j_iload_n (pc := 26) C 2 rfl dX1_passHours_26 ?_
      obtain ⟨rfl, rfl, rfl, rfl, rfl, rfl⟩ := si6 hf
      exact j_iret (pc := 27) C dX1_passHours_27
    · refine j_iload_n (pc := 9) C 2 rfl dX1_passHours_9 ?_
      refine j_aload_n (pc := 10) C 0 rfl dX1_passHours_10 ?_
      refine j_aload_n (pc := 11) C 0 rfl dX1_passHours_11 ?_
      obtain ⟨a_1, hu, hf⟩ := ob1_some hf
      refine j_callV (pc := 12) (N := 6) (qr := 0) (ci := 1) [] [.ref r0, .int v2] [.ref r0, .ref r0, .int v2] [.int a_1, .ref r0, .int v2] [(r0, .inr (1, [.int rCells, .int rSigns, .int rHour, .int rStops, .int rWaste, .int rDone, .int rBridged, .ref rKindA, .ref rRoomA, .ref rChargeA, .ref rLeakA, .ref rPlanA])), (rKindA, .inl (D.1 7, 5, .inl rKind)), (rRoomA, .inl (D.1 7, 5, .inl rRoom)), (rChargeA, .inl (D.1 7, 5, .inl rCharge)), (rLeakA, .inl (D.1 7, 5, .inl rLeak)), (rPlanA, .inl (D.1 7, 16, .inl rPlan))] [] [r0, rKindA, rRoomA, rChargeA, rLeakA, rPlanA] [0, 1, 2, 3, 4, 5] [] C (c_X1_current D r0 rKindA rRoomA rChargeA rLeakA rPlanA rCells rSigns rHour rStops rWaste rDone rBridged rKind rRoom rCharge rLeak rPlan a_1 hu) k_X1_current gX1_passHours_X1_current ⟨rfl, rfl⟩ ⟨Nat.le_of_ble_eq_true rfl, Nat.le_of_ble_eq_true rfl⟩ rfl rfl rfl rfl rfl rfl (Nat.le_of_ble_eq_true rfl) rfl rfl rfl rfl (by decide) (by decide) (by decide) rfl rfl rfl dX1_passHours_12 ?_
      obtain ⟨a_2, rHour_3, rStops_4, rWaste_5, rDone_6, rCharge_7, hu, hf⟩ := ob6_some hf
      refine j_callV (pc := 15) (N := 6) (qr := 0) (ci := 1) [.int a_1] [.int v2] [.int a_1, .ref r0, .int v2] [.int a_2, .int v2] [(r0, .inr (1, [.int rCells, .int rSigns, .int rHour_3, .int rStops_4, .int rWaste_5, .int rDone_6, .int rBridged, .ref rKindA, .ref rRoomA, .ref rChargeA, .ref rLeakA, .ref rPlanA])), (rKindA, .inl (D.1 7, 5, .inl rKind)), (rRoomA, .inl (D.1 7, 5, .inl rRoom)), (rChargeA, .inl (D.1 7, 5, .inl rCharge_7)), (rLeakA, .inl (D.1 7, 5, .inl rLeak)), (rPlanA, .inl (D.1 7, 16, .inl rPlan))] [] [r0, rKindA, rRoomA, rChargeA, rLeakA, rPlanA] [0, 1, 2, 3, 4, 5] [] C (c_X1_passHour D r0 rKindA rRoomA rChargeA rLeakA rPlanA a_1 rCells rSigns rHour rStops rWaste rDone rBridged rKind rRoom rCharge rLeak rPlan a_2 rHour_3 rStops_4 rWaste_5 rDone_6 rCharge_7 hu) k_X1_passHour gX1_passHours_X1_passHour ⟨rfl, rfl⟩ ⟨Nat.le_of_ble_eq_true rfl, Nat.le_of_ble_eq_true rfl⟩ rfl rfl rfl rfl rfl rfl (Nat.le_of_ble_eq_true rfl) rfl rfl rfl rfl (by decide) (by decide) (by decide) rfl rfl rfl dX1_passHours_15 ?_
      refine j_iadd (pc := 18) C dX1_passHours_18 ?_
      refine j_bdi hf (fun y_8 hf => ?_)
      refine j_istore_n (pc := 19) 2 [(0, .ref r0), (1, .int v1), (2, .int y_8), (3, .int v3)] [1, 2, 0, 3] C rfl (by decide) rfl dX1_passHours_19 ?_
      refine j_iinc (pc := 20) (v3 + 1) 3 3 [(0, .ref r0), (1, .int v1), (2, .int y_8), (3, .int (v3 + 1))] [1, 2, 3, 0] C rfl (by rfl) (by decide) rfl dX1_passHours_20 ?_
      refine j_goto (pc := 23) 4 C (by decide) dX1_passHours_23 ?_
      exact ih _ _ _ _ _ _ _ hf
set_option maxHeartbeats 4000000 in
set_option maxRecDepth 100000 in
theorem t_X1_passHours_0 {G : jX} {D : va_G} {r0 rKindA rRoomA rChargeA rLeakA rPlanA : Nat} {v1 : Int32} {rCells : Int32} {rSigns : Int32} {rHour : Int32} {rStops : Int32} {rWaste : Int32} {rDone : Int32} {rBridged : Int32} {rKind : Nat → Int32} {rRoom : Nat → Int32} {rCharge : Nat → Int32} {rLeak : Nat → Int32} {rPlan : Nat → Int32} {oR : Int32} {oRHour : Int32} {oRStops : Int32} {oRWaste : Int32} {oRDone : Int32} {oRCharge : Nat → Int32} (C : KC G D cX1_passHours RX1 wsX1_passHours ({ frames := 4, cells := 0, slots := 0, locals := 92 } : Room) 4 (some .int) (some (.int oR)) [(r0, .inr (1, [.int rCells, .int rSigns, .int oRHour, .int oRStops, .int oRWaste, .int oRDone, .int rBridged, .ref rKindA, .ref rRoomA, .ref rChargeA, .ref rLeakA, .ref rPlanA])), (rKindA, .inl (D.1 7, 5, .inl rKind)), (rRoomA, .inl (D.1 7, 5, .inl rRoom)), (rChargeA, .inl (D.1 7, 5, .inl oRCharge)), (rLeakA, .inl (D.1 7, 5, .inl rLeak)), (rPlanA, .inl (D.1 7, 16, .inl rPlan))]) (hf : f_X1_passHours v1 rCells rSigns rHour rStops rWaste rDone rBridged rKind rRoom rCharge rLeak rPlan = some (oR, oRHour, oRStops, oRWaste, oRDone, oRCharge)) : JW G D 0 [(0, .ref r0), (1, .int v1)] [] [(r0, .inr (1, [.int rCells, .int rSigns, .int rHour, .int rStops, .int rWaste, .int rDone, .int rBridged, .ref rKindA, .ref rRoomA, .ref rChargeA, .ref rLeakA, .ref rPlanA])), (rKindA, .inl (D.1 7, 5, .inl rKind)), (rRoomA, .inl (D.1 7, 5, .inl rRoom)), (rChargeA, .inl (D.1 7, 5, .inl rCharge)), (rLeakA, .inl (D.1 7, 5, .inl rLeak)), (rPlanA, .inl (D.1 7, 16, .inl rPlan))] := by
  unfold f_X1_passHours at hf
  refine j_iconst (pc := 0) 0 C (by decide) dX1_passHours_0 ?_
  refine j_istore_n (pc := 1) 2 [(0, .ref r0), (1, .int v1), (2, .int 0)] [1, 2, 0] C rfl (by decide) rfl dX1_passHours_1 ?_
  refine j_iconst (pc := 2) 0 C (by decide) dX1_passHours_2 ?_
  refine j_istore_n (pc := 3) 3 [(0, .ref r0), (1, .int v1), (2, .int 0), (3, .int 0)] [1, 2, 3, 0] C rfl (by decide) rfl dX1_passHours_3 ?_
  exact t_X1_passHours_4 C 1000 _ _ _ _ _ _ _ hf
theorem k_X1_passHours : CK yX1_passHours wsX1_passHours cX1_passHours 4 (some .int) 1 := ⟨rfl, by decide +kernel⟩
theorem c_X1_passHours (D : va_G) (r0 rKindA rRoomA rChargeA rLeakA rPlanA : Nat) (v1 : Int32) (rCells : Int32) (rSigns : Int32) (rHour : Int32) (rStops : Int32) (rWaste : Int32) (rDone : Int32) (rBridged : Int32) (rKind : Nat → Int32) (rRoom : Nat → Int32) (rCharge : Nat → Int32) (rLeak : Nat → Int32) (rPlan : Nat → Int32) (oR : Int32) (oRHour : Int32) (oRStops : Int32) (oRWaste : Int32) (oRDone : Int32) (oRCharge : Nat → Int32) (hf : f_X1_passHours v1 rCells rSigns rHour rStops rWaste rDone rBridged rKind rRoom rCharge rLeak rPlan = some (oR, oRHour, oRStops, oRWaste, oRDone, oRCharge)) : ∀ l, MW l yX1_passHours wsX1_passHours ({ frames := 4, cells := 0, slots := 0, locals := 92 } : Room) D [.ref r0, .int v1] [(r0, .inr (1, [.int rCells, .int rSigns, .int rHour, .int rStops, .int rWaste, .int rDone, .int rBridged, .ref rKindA, .ref rRoomA, .ref rChargeA, .ref rLeakA, .ref rPlanA])), (rKindA, .inl (D.1 7, 5, .inl rKind)), (rRoomA, .inl (D.1 7, 5, .inl rRoom)), (rChargeA, .inl (D.1 7, 5, .inl rCharge)), (rLeakA, .inl (D.1 7, 5, .inl rLeak)), (rPlanA, .inl (D.1 7, 16, .inl rPlan))] (some (.int oR)) [(r0, .inr (1, [.int rCells, .int rSigns, .int oRHour, .int oRStops, .int oRWaste, .int oRDone, .int rBridged, .ref rKindA, .ref rRoomA, .ref rChargeA, .ref rLeakA, .ref rPlanA])), (rKindA, .inl (D.1 7, 5, .inl rKind)), (rRoomA, .inl (D.1 7, 5, .inl rRoom)), (rChargeA, .inl (D.1 7, 5, .inl oRCharge)), (rLeakA, .inl (D.1 7, 5, .inl rLeak)), (rPlanA, .inl (D.1 7, 16, .inl rPlan))] := j_met (cc := cX1_passHours) (nl := 4) (rt := (some .int)) (own := RX1) (lv := [(0, .ref r0), (1, .int v1)]) (by decide +kernel) rfl rfl rfl (Nat.le_of_ble_eq_true rfl) (fun G C => t_X1_passHours_0 C hf)

-- X1_chargesSummed
theorem fl_X1_chargesSummed_31 : Cond.fieldLink RX1 31 "CellsInRow$Row" "cells" "I" ∈ wsX1_chargesSummed := by decide +kernel
theorem iw_X1_chargesSummed_X1 : ∀ w ∈ wsX10, w ∈ wsX1_chargesSummed := by decide +kernel
theorem fl_X1_chargesSummed_22 : Cond.fieldLink RX1 22 "CellsInRow$Row" "charge" "[I" ∈ wsX1_chargesSummed := by decide +kernel
set_option maxHeartbeats 4000000 in
set_option maxRecDepth 100000 in
theorem t_X1_chargesSummed_4 {G : jX} {D : va_G} {r0 rKindA rRoomA rChargeA rLeakA rPlanA : Nat} {rCells : Int32} {rSigns : Int32} {rHour : Int32} {rStops : Int32} {rWaste : Int32} {rDone : Int32} {rBridged : Int32} {rKind : Nat → Int32} {rRoom : Nat → Int32} {rCharge : Nat → Int32} {rLeak : Nat → Int32} {rPlan : Nat → Int32} {oR : Int32} (C : KC G D cX1_chargesSummed RX1 wsX1_chargesSummed ({ frames := 0, cells := 0, slots := 0, locals := 0 } : Room) 3 (some .int) (some (.int oR)) [(r0, .inr (1, [.int rCells, .int rSigns, .int rHour, .int rStops, .int rWaste, .int rDone, .int rBridged, .ref rKindA, .ref rRoomA, .ref rChargeA, .ref rLeakA, .ref rPlanA])), (rKindA, .inl (D.1 7, 5, .inl rKind)), (rRoomA, .inl (D.1 7, 5, .inl rRoom)), (rChargeA, .inl (D.1 7, 5, .inl rCharge)), (rLeakA, .inl (D.1 7, 5, .inl rLeak)), (rPlanA, .inl (D.1 7, 16, .inl rPlan))]) : ∀ (n : Nat) (v1 : Int32) (v2 : Int32), f_X1_chargesSummed_4 rCells rCharge n v1 v2 = some oR → JW G D 4 [(0, .ref r0), (1, .int v1), (2, .int v2)] [] [(r0, .inr (1, [.int rCells, .int rSigns, .int rHour, .int rStops, .int rWaste, .int rDone, .int rBridged, .ref rKindA, .ref rRoomA, .ref rChargeA, .ref rLeakA, .ref rPlanA])), (rKindA, .inl (D.1 7, 5, .inl rKind)), (rRoomA, .inl (D.1 7, 5, .inl rRoom)), (rChargeA, .inl (D.1 7, 5, .inl rCharge)), (rLeakA, .inl (D.1 7, 5, .inl rLeak)), (rPlanA, .inl (D.1 7, 16, .inl rPlan))] := by
  intro n
  induction n with
  | zero => intro _ _ hf; rw [f_X1_chargesSummed_4] at hf; cases hf
  | succ n ih =>
    intro v1 v2 hf
    rw [f_X1_chargesSummed_4] at hf
    refine j_iload_n (pc := 4) C 2 rfl dX1_chargesSummed_4 ?_
    refine j_aload_n (pc := 5) C 0 rfl dX1_chargesSummed_5 ?_
    refine j_get (pc := 6) 0 1 0 C iw_X1_chargesSummed_X1 rfl rfl (by decide) fl_X1_chargesSummed_31 rfl rfl dX1_chargesSummed_6 ?_
    refine j_icmp_ge (pc := 9) 27 C hf (by decide) dX1_chargesSummed_9 (fun hf => ?_) (fun hf => ?_)
    · refine j_iload_n (pc := 27) C 1 rfl dX1_chargesSummed_27 ?_
      obtain rfl := si1 hf
      exact j_iret (pc := 28) C dX1_chargesSummed_28
    · refine j_iload_n (pc := 12) C 1 rfl dX1_chargesSummed_12 ?_
      refine j_aload_n (pc := 13) C 0 rfl dX1_chargesSummed_13 ?_
      refine j_get (pc := 14) 0 1 9 C iw_X1_chargesSummed_X1 rfl rfl (by decide) fl_X1_chargesSummed_22 rfl rfl dX1_chargesSummed_14 ?_
      refine j_iload_n (pc := 17) C 2 rfl dX1_chargesSummed_17 ?_
      refine j_iald (pc := 18) 3 C rfl hf dX1_chargesSummed_18 (fun hf => ?_)
      refine j_iadd (pc := 19) C dX1_chargesSummed_19 ?_
      refine j_bdi hf (fun y_1 hf => ?_)
      refine j_istore_n (pc := 20) 1 [(0, .ref r0), (1, .int y_1), (2, .int v2)] [1, 0, 2] C rfl (by decide) rfl dX1_chargesSummed_20 ?_
      refine j_iinc (pc := 21) (v2 + 1) 2 2 [(0, .ref r0), (1, .int y_1), (2, .int (v2 + 1))] [1, 2, 0] C rfl (by rfl) (by decide) rfl dX1_chargesSummed_21 ?_
      refine j_goto (pc := 24) 4 C (by decide) dX1_chargesSummed_24 ?_
      exact ih _ _ hf
set_option maxHeartbeats 4000000 in
set_option maxRecDepth 100000 in
theorem t_X1_chargesSummed_0 {G : jX} {D : va_G} {r0 rKindA rRoomA rChargeA rLeakA rPlanA : Nat} {rCells : Int32} {rSigns : Int32} {rHour : Int32} {rStops : Int32} {rWaste : Int32} {rDone : Int32} {rBridged : Int32} {rKind : Nat → Int32} {rRoom : Nat → Int32} {rCharge : Nat → Int32} {rLeak : Nat → Int32} {rPlan : Nat → Int32} {oR : Int32} (C : KC G D cX1_chargesSummed RX1 wsX1_chargesSummed ({ frames := 0, cells := 0, slots := 0, locals := 0 } : Room) 3 (some .int) (some (.int oR)) [(r0, .inr (1, [.int rCells, .int rSigns, .int rHour, .int rStops, .int rWaste, .int rDone, .int rBridged, .ref rKindA, .ref rRoomA, .ref rChargeA, .ref rLeakA, .ref rPlanA])), (rKindA, .inl (D.1 7, 5, .inl rKind)), (rRoomA, .inl (D.1 7, 5, .inl rRoom)), (rChargeA, .inl (D.1 7, 5, .inl rCharge)), (rLeakA, .inl (D.1 7, 5, .inl rLeak)), (rPlanA, .inl (D.1 7, 16, .inl rPlan))]) (hf : f_X1_chargesSummed rCells rCharge = some oR) : JW G D 0 [(0, .ref r0)] [] [(r0, .inr (1, [.int rCells, .int rSigns, .int rHour, .int rStops, .int rWaste, .int rDone, .int rBridged, .ref rKindA, .ref rRoomA, .ref rChargeA, .ref rLeakA, .ref rPlanA])), (rKindA, .inl (D.1 7, 5, .inl rKind)), (rRoomA, .inl (D.1 7, 5, .inl rRoom)), (rChargeA, .inl (D.1 7, 5, .inl rCharge)), (rLeakA, .inl (D.1 7, 5, .inl rLeak)), (rPlanA, .inl (D.1 7, 16, .inl rPlan))] := by
  unfold f_X1_chargesSummed at hf
  refine j_iconst (pc := 0) 0 C (by decide) dX1_chargesSummed_0 ?_
  refine j_istore_n (pc := 1) 1 [(0, .ref r0), (1, .int 0)] [1, 0] C rfl (by decide) rfl dX1_chargesSummed_1 ?_
  refine j_iconst (pc := 2) 0 C (by decide) dX1_chargesSummed_2 ?_
  refine j_istore_n (pc := 3) 2 [(0, .ref r0), (1, .int 0), (2, .int 0)] [1, 2, 0] C rfl (by decide) rfl dX1_chargesSummed_3 ?_
  exact t_X1_chargesSummed_4 C 1000 _ _ hf
theorem k_X1_chargesSummed : CK yX1_chargesSummed wsX1_chargesSummed cX1_chargesSummed 3 (some .int) 0 := ⟨rfl, by decide +kernel⟩
theorem c_X1_chargesSummed (D : va_G) (r0 rKindA rRoomA rChargeA rLeakA rPlanA : Nat) (rCells : Int32) (rSigns : Int32) (rHour : Int32) (rStops : Int32) (rWaste : Int32) (rDone : Int32) (rBridged : Int32) (rKind : Nat → Int32) (rRoom : Nat → Int32) (rCharge : Nat → Int32) (rLeak : Nat → Int32) (rPlan : Nat → Int32) (oR : Int32) (hf : f_X1_chargesSummed rCells rCharge = some oR) : ∀ l, MW l yX1_chargesSummed wsX1_chargesSummed ({ frames := 0, cells := 0, slots := 0, locals := 0 } : Room) D [.ref r0] [(r0, .inr (1, [.int rCells, .int rSigns, .int rHour, .int rStops, .int rWaste, .int rDone, .int rBridged, .ref rKindA, .ref rRoomA, .ref rChargeA, .ref rLeakA, .ref rPlanA])), (rKindA, .inl (D.1 7, 5, .inl rKind)), (rRoomA, .inl (D.1 7, 5, .inl rRoom)), (rChargeA, .inl (D.1 7, 5, .inl rCharge)), (rLeakA, .inl (D.1 7, 5, .inl rLeak)), (rPlanA, .inl (D.1 7, 16, .inl rPlan))] (some (.int oR)) [(r0, .inr (1, [.int rCells, .int rSigns, .int rHour, .int rStops, .int rWaste, .int rDone, .int rBridged, .ref rKindA, .ref rRoomA, .ref rChargeA, .ref rLeakA, .ref rPlanA])), (rKindA, .inl (D.1 7, 5, .inl rKind)), (rRoomA, .inl (D.1 7, 5, .inl rRoom)), (rChargeA, .inl (D.1 7, 5, .inl rCharge)), (rLeakA, .inl (D.1 7, 5, .inl rLeak)), (rPlanA, .inl (D.1 7, 16, .inl rPlan))] := j_met (cc := cX1_chargesSummed) (nl := 3) (rt := (some .int)) (own := RX1) (lv := [(0, .ref r0)]) (by decide +kernel) rfl rfl rfl (Nat.le_of_ble_eq_true rfl) (fun G C => t_X1_chargesSummed_0 C hf)

-- X1_roomsSummed
theorem fl_X1_roomsSummed_31 : Cond.fieldLink RX1 31 "CellsInRow$Row" "cells" "I" ∈ wsX1_roomsSummed := by decide +kernel
theorem iw_X1_roomsSummed_X1 : ∀ w ∈ wsX10, w ∈ wsX1_roomsSummed := by decide +kernel
theorem fl_X1_roomsSummed_19 : Cond.fieldLink RX1 19 "CellsInRow$Row" "room" "[I" ∈ wsX1_roomsSummed := by decide +kernel
set_option maxHeartbeats 4000000 in
set_option maxRecDepth 100000 in
theorem t_X1_roomsSummed_4 {G : jX} {D : va_G} {r0 rKindA rRoomA rChargeA rLeakA rPlanA : Nat} {rCells : Int32} {rSigns : Int32} {rHour : Int32} {rStops : Int32} {rWaste : Int32} {rDone : Int32} {rBridged : Int32} {rKind : Nat → Int32} {rRoom : Nat → Int32} {rCharge : Nat → Int32} {rLeak : Nat → Int32} {rPlan : Nat → Int32} {oR : Int32} (C : KC G D cX1_roomsSummed RX1 wsX1_roomsSummed ({ frames := 0, cells := 0, slots := 0, locals := 0 } : Room) 3 (some .int) (some (.int oR)) [(r0, .inr (1, [.int rCells, .int rSigns, .int rHour, .int rStops, .int rWaste, .int rDone, .int rBridged, .ref rKindA, .ref rRoomA, .ref rChargeA, .ref rLeakA, .ref rPlanA])), (rKindA, .inl (D.1 7, 5, .inl rKind)), (rRoomA, .inl (D.1 7, 5, .inl rRoom)), (rChargeA, .inl (D.1 7, 5, .inl rCharge)), (rLeakA, .inl (D.1 7, 5, .inl rLeak)), (rPlanA, .inl (D.1 7, 16, .inl rPlan))]) : ∀ (n : Nat) (v1 : Int32) (v2 : Int32), f_X1_roomsSummed_4 rCells rRoom n v1 v2 = some oR → JW G D 4 [(0, .ref r0), (1, .int v1), (2, .int v2)] [] [(r0, .inr (1, [.int rCells, .int rSigns, .int rHour, .int rStops, .int rWaste, .int rDone, .int rBridged, .ref rKindA, .ref rRoomA, .ref rChargeA, .ref rLeakA, .ref rPlanA])), (rKindA, .inl (D.1 7, 5, .inl rKind)), (rRoomA, .inl (D.1 7, 5, .inl rRoom)), (rChargeA, .inl (D.1 7, 5, .inl rCharge)), (rLeakA, .inl (D.1 7, 5, .inl rLeak)), (rPlanA, .inl (D.1 7, 16, .inl rPlan))] := by
  intro n
  induction n with
  | zero => intro _ _ hf; rw [f_X1_roomsSummed_4] at hf; cases hf
  | succ n ih =>
    intro v1 v2 hf
    rw [f_X1_roomsSummed_4] at hf
    refine j_iload_n (pc := 4) C 2 rfl dX1_roomsSummed_4 ?_
    refine j_aload_n (pc := 5) C 0 rfl dX1_roomsSummed_5 ?_
    refine j_get (pc := 6) 0 1 0 C iw_X1_roomsSummed_X1 rfl rfl (by decide) fl_X1_roomsSummed_31 rfl rfl dX1_roomsSummed_6 ?_
    refine j_icmp_ge (pc := 9) 27 C hf (by decide) dX1_roomsSummed_9 (fun hf => ?_) (fun hf => ?_)
    · refine j_iload_n (pc := 27) C 1 rfl dX1_roomsSummed_27 ?_
      obtain rfl := si1 hf
      exact j_iret (pc := 28) C dX1_roomsSummed_28
    · refine j_iload_n (pc := 12) C 1 rfl dX1_roomsSummed_12 ?_
      refine j_aload_n (pc := 13) C 0 rfl dX1_roomsSummed_13 ?_
      refine j_get (pc := 14) 0 1 8 C iw_X1_roomsSummed_X1 rfl rfl (by decide) fl_X1_roomsSummed_19 rfl rfl dX1_roomsSummed_14 ?_
      refine j_iload_n (pc := 17) C 2 rfl dX1_roomsSummed_17 ?_
      refine j_iald (pc := 18) 2 C rfl hf dX1_roomsSummed_18 (fun hf => ?_)
      refine j_iadd (pc := 19) C dX1_roomsSummed_19 ?_
      refine j_bdi hf (fun y_1 hf => ?_)
      refine j_istore_n (pc := 20) 1 [(0, .ref r0), (1, .int y_1), (2, .int v2)] [1, 0, 2] C rfl (by decide) rfl dX1_roomsSummed_20 ?_
      refine j_iinc (pc := 21) (v2 + 1) 2 2 [(0, .ref r0), (1, .int y_1), (2, .int (v2 + 1))] [1, 2, 0] C rfl (by rfl) (by decide) rfl dX1_roomsSummed_21 ?_
      refine j_goto (pc := 24) 4 C (by decide) dX1_roomsSummed_24 ?_
      exact ih _ _ hf
set_option maxHeartbeats 4000000 in
set_option maxRecDepth 100000 in
theorem t_X1_roomsSummed_0 {G : jX} {D : va_G} {r0 rKindA rRoomA rChargeA rLeakA rPlanA : Nat} {rCells : Int32} {rSigns : Int32} {rHour : Int32} {rStops : Int32} {rWaste : Int32} {rDone : Int32} {rBridged : Int32} {rKind : Nat → Int32} {rRoom : Nat → Int32} {rCharge : Nat → Int32} {rLeak : Nat → Int32} {rPlan : Nat → Int32} {oR : Int32} (C : KC G D cX1_roomsSummed RX1 wsX1_roomsSummed ({ frames := 0, cells := 0, slots := 0, locals := 0 } : Room) 3 (some .int) (some (.int oR)) [(r0, .inr (1, [.int rCells, .int rSigns, .int rHour, .int rStops, .int rWaste, .int rDone, .int rBridged, .ref rKindA, .ref rRoomA, .ref rChargeA, .ref rLeakA, .ref rPlanA])), (rKindA, .inl (D.1 7, 5, .inl rKind)), (rRoomA, .inl (D.1 7, 5, .inl rRoom)), (rChargeA, .inl (D.1 7, 5, .inl rCharge)), (rLeakA, .inl (D.1 7, 5, .inl rLeak)), (rPlanA, .inl (D.1 7, 16, .inl rPlan))]) (hf : f_X1_roomsSummed rCells rRoom = some oR) : JW G D 0 [(0, .ref r0)] [] [(r0, .inr (1, [.int rCells, .int rSigns, .int rHour, .int rStops, .int rWaste, .int rDone, .int rBridged, .ref rKindA, .ref rRoomA, .ref rChargeA, .ref rLeakA, .ref rPlanA])), (rKindA, .inl (D.1 7, 5, .inl rKind)), (rRoomA, .inl (D.1 7, 5, .inl rRoom)), (rChargeA, .inl (D.1 7, 5, .inl rCharge)), (rLeakA, .inl (D.1 7, 5, .inl rLeak)), (rPlanA, .inl (D.1 7, 16, .inl rPlan))] := by
  unfold f_X1_roomsSummed at hf
  refine j_iconst (pc := 0) 0 C (by decide) dX1_roomsSummed_0 ?_
  refine j_istore_n (pc := 1) 1 [(0, .ref r0), (1, .int 0)] [1, 0] C rfl (by decide) rfl dX1_roomsSummed_1 ?_
  refine j_iconst (pc := 2) 0 C (by decide) dX1_roomsSummed_2 ?_
  refine j_istore_n (pc := 3) 2 [(0, .ref r0), (1, .int 0), (2, .int 0)] [1, 2, 0] C rfl (by decide) rfl dX1_roomsSummed_3 ?_
  exact t_X1_roomsSummed_4 C 1000 _ _ hf
theorem k_X1_roomsSummed : CK yX1_roomsSummed wsX1_roomsSummed cX1_roomsSummed 3 (some .int) 0 := ⟨rfl, by decide +kernel⟩
theorem c_X1_roomsSummed (D : va_G) (r0 rKindA rRoomA rChargeA rLeakA rPlanA : Nat) (rCells : Int32) (rSigns : Int32) (rHour : Int32) (rStops : Int32) (rWaste : Int32) (rDone : Int32) (rBridged : Int32) (rKind : Nat → Int32) (rRoom : Nat → Int32) (rCharge : Nat → Int32) (rLeak : Nat → Int32) (rPlan : Nat → Int32) (oR : Int32) (hf : f_X1_roomsSummed rCells rRoom = some oR) : ∀ l, MW l yX1_roomsSummed wsX1_roomsSummed ({ frames := 0, cells := 0, slots := 0, locals := 0 } : Room) D [.ref r0] [(r0, .inr (1, [.int rCells, .int rSigns, .int rHour, .int rStops, .int rWaste, .int rDone, .int rBridged, .ref rKindA, .ref rRoomA, .ref rChargeA, .ref rLeakA, .ref rPlanA])), (rKindA, .inl (D.1 7, 5, .inl rKind)), (rRoomA, .inl (D.1 7, 5, .inl rRoom)), (rChargeA, .inl (D.1 7, 5, .inl rCharge)), (rLeakA, .inl (D.1 7, 5, .inl rLeak)), (rPlanA, .inl (D.1 7, 16, .inl rPlan))] (some (.int oR)) [(r0, .inr (1, [.int rCells, .int rSigns, .int rHour, .int rStops, .int rWaste, .int rDone, .int rBridged, .ref rKindA, .ref rRoomA, .ref rChargeA, .ref rLeakA, .ref rPlanA])), (rKindA, .inl (D.1 7, 5, .inl rKind)), (rRoomA, .inl (D.1 7, 5, .inl rRoom)), (rChargeA, .inl (D.1 7, 5, .inl rCharge)), (rLeakA, .inl (D.1 7, 5, .inl rLeak)), (rPlanA, .inl (D.1 7, 16, .inl rPlan))] := j_met (cc := cX1_roomsSummed) (nl := 3) (rt := (some .int)) (own := RX1) (lv := [(0, .ref r0)]) (by decide +kernel) rfl rfl rfl (Nat.le_of_ble_eq_true rfl) (fun G C => t_X1_roomsSummed_0 C hf)

-- X1_signsSummed
theorem fl_X1_signsSummed_34 : Cond.fieldLink RX1 34 "CellsInRow$Row" "signs" "I" ∈ wsX1_signsSummed := by decide +kernel
theorem iw_X1_signsSummed_X1 : ∀ w ∈ wsX10, w ∈ wsX1_signsSummed := by decide +kernel
theorem fl_X1_signsSummed_28 : Cond.fieldLink RX1 28 "CellsInRow$Row" "plan" "[I" ∈ wsX1_signsSummed := by decide +kernel
set_option maxHeartbeats 4000000 in
set_option maxRecDepth 100000 in
theorem t_X1_signsSummed_4 {G : jX} {D : va_G} {r0 rKindA rRoomA rChargeA rLeakA rPlanA : Nat} {rCells : Int32} {rSigns : Int32} {rHour : Int32} {rStops : Int32} {rWaste : Int32} {rDone : Int32} {rBridged : Int32} {rKind : Nat → Int32} {rRoom : Nat → Int32} {rCharge : Nat → Int32} {rLeak : Nat → Int32} {rPlan : Nat → Int32} {oR : Int32} (C : KC G D cX1_signsSummed RX1 wsX1_signsSummed ({ frames := 0, cells := 0, slots := 0, locals := 0 } : Room) 3 (some .int) (some (.int oR)) [(r0, .inr (1, [.int rCells, .int rSigns, .int rHour, .int rStops, .int rWaste, .int rDone, .int rBridged, .ref rKindA, .ref rRoomA, .ref rChargeA, .ref rLeakA, .ref rPlanA])), (rKindA, .inl (D.1 7, 5, .inl rKind)), (rRoomA, .inl (D.1 7, 5, .inl rRoom)), (rChargeA, .inl (D.1 7, 5, .inl rCharge)), (rLeakA, .inl (D.1 7, 5, .inl rLeak)), (rPlanA, .inl (D.1 7, 16, .inl rPlan))]) : ∀ (n : Nat) (v1 : Int32) (v2 : Int32), f_X1_signsSummed_4 rSigns rPlan n v1 v2 = some oR → JW G D 4 [(0, .ref r0), (1, .int v1), (2, .int v2)] [] [(r0, .inr (1, [.int rCells, .int rSigns, .int rHour, .int rStops, .int rWaste, .int rDone, .int rBridged, .ref rKindA, .ref rRoomA, .ref rChargeA, .ref rLeakA, .ref rPlanA])), (rKindA, .inl (D.1 7, 5, .inl rKind)), (rRoomA, .inl (D.1 7, 5, .inl rRoom)), (rChargeA, .inl (D.1 7, 5, .inl rCharge)), (rLeakA, .inl (D.1 7, 5, .inl rLeak)), (rPlanA, .inl (D.1 7, 16, .inl rPlan))] := by
  intro n
  induction n with
  | zero => intro _ _ hf; rw [f_X1_signsSummed_4] at hf; cases hf
  | succ n ih =>
    intro v1 v2 hf
    rw [f_X1_signsSummed_4] at hf
    refine j_iload_n (pc := 4) C 2 rfl dX1_signsSummed_4 ?_
    refine j_aload_n (pc := 5) C 0 rfl dX1_signsSummed_5 ?_
    refine j_get (pc := 6) 0 1 1 C iw_X1_signsSummed_X1 rfl rfl (by decide) fl_X1_signsSummed_34 rfl rfl dX1_signsSummed_6 ?_
    refine j_icmp_ge (pc := 9) 27 C hf (by decide) dX1_signsSummed_9 (fun hf => ?_) (fun hf => ?_)
    · refine j_iload_n (pc := 27) C 1 rfl dX1_signsSummed_27 ?_
      obtain rfl := si1 hf
      exact j_iret (pc := 28) C dX1_signsSummed_28
    · refine j_iload_n (pc := 12) C 1 rfl dX1_signsSummed_12 ?_
      refine j_aload_n (pc := 13) C 0 rfl dX1_signsSummed_13 ?_
      refine j_get (pc := 14) 0 1 11 C iw_X1_signsSummed_X1 rfl rfl (by decide) fl_X1_signsSummed_28 rfl rfl dX1_signsSummed_14 ?_
      refine j_iload_n (pc := 17) C 2 rfl dX1_signsSummed_17 ?_
      refine j_iald (pc := 18) 5 C rfl hf dX1_signsSummed_18 (fun hf => ?_)
      refine j_iadd (pc := 19) C dX1_signsSummed_19 ?_
      refine j_bdi hf (fun y_1 hf => ?_)
      refine j_istore_n (pc := 20) 1 [(0, .ref r0), (1, .int y_1), (2, .int v2)] [1, 0, 2] C rfl (by decide) rfl dX1_signsSummed_20 ?_
      refine j_iinc (pc := 21) (v2 + 1) 2 2 [(0, .ref r0), (1, .int y_1), (2, .int (v2 + 1))] [1, 2, 0] C rfl (by rfl) (by decide) rfl dX1_signsSummed_21 ?_
      refine j_goto (pc := 24) 4 C (by decide) dX1_signsSummed_24 ?_
      exact ih _ _ hf
set_option maxHeartbeats 4000000 in
set_option maxRecDepth 100000 in
theorem t_X1_signsSummed_0 {G : jX} {D : va_G} {r0 rKindA rRoomA rChargeA rLeakA rPlanA : Nat} {rCells : Int32} {rSigns : Int32} {rHour : Int32} {rStops : Int32} {rWaste : Int32} {rDone : Int32} {rBridged : Int32} {rKind : Nat → Int32} {rRoom : Nat → Int32} {rCharge : Nat → Int32} {rLeak : Nat → Int32} {rPlan : Nat → Int32} {oR : Int32} (C : KC G D cX1_signsSummed RX1 wsX1_signsSummed ({ frames := 0, cells := 0, slots := 0, locals := 0 } : Room) 3 (some .int) (some (.int oR)) [(r0, .inr (1, [.int rCells, .int rSigns, .int rHour, .int rStops, .int rWaste, .int rDone, .int rBridged, .ref rKindA, .ref rRoomA, .ref rChargeA, .ref rLeakA, .ref rPlanA])), (rKindA, .inl (D.1 7, 5, .inl rKind)), (rRoomA, .inl (D.1 7, 5, .inl rRoom)), (rChargeA, .inl (D.1 7, 5, .inl rCharge)), (rLeakA, .inl (D.1 7, 5, .inl rLeak)), (rPlanA, .inl (D.1 7, 16, .inl rPlan))]) (hf : f_X1_signsSummed rSigns rPlan = some oR) : JW G D 0 [(0, .ref r0)] [] [(r0, .inr (1, [.int rCells, .int rSigns, .int rHour, .int rStops, .int rWaste, .int rDone, .int rBridged, .ref rKindA, .ref rRoomA, .ref rChargeA, .ref rLeakA, .ref rPlanA])), (rKindA, .inl (D.1 7, 5, .inl rKind)), (rRoomA, .inl (D.1 7, 5, .inl rRoom)), (rChargeA, .inl (D.1 7, 5, .inl rCharge)), (rLeakA, .inl (D.1 7, 5, .inl rLeak)), (rPlanA, .inl (D.1 7, 16, .inl rPlan))] := by
  unfold f_X1_signsSummed at hf
  refine j_iconst (pc := 0) 0 C (by decide) dX1_signsSummed_0 ?_
  refine j_istore_n (pc := 1) 1 [(0, .ref r0), (1, .int 0)] [1, 0] C rfl (by decide) rfl dX1_signsSummed_1 ?_
  refine j_iconst (pc := 2) 0 C (by decide) dX1_signsSummed_2 ?_
  refine j_istore_n (pc := 3) 2 [(0, .ref r0), (1, .int 0), (2, .int 0)] [1, 2, 0] C rfl (by decide) rfl dX1_signsSummed_3 ?_
  exact t_X1_signsSummed_4 C 1000 _ _ hf
theorem k_X1_signsSummed : CK yX1_signsSummed wsX1_signsSummed cX1_signsSummed 3 (some .int) 0 := ⟨rfl, by decide +kernel⟩
theorem c_X1_signsSummed (D : va_G) (r0 rKindA rRoomA rChargeA rLeakA rPlanA : Nat) (rCells : Int32) (rSigns : Int32) (rHour : Int32) (rStops : Int32) (rWaste : Int32) (rDone : Int32) (rBridged : Int32) (rKind : Nat → Int32) (rRoom : Nat → Int32) (rCharge : Nat → Int32) (rLeak : Nat → Int32) (rPlan : Nat → Int32) (oR : Int32) (hf : f_X1_signsSummed rSigns rPlan = some oR) : ∀ l, MW l yX1_signsSummed wsX1_signsSummed ({ frames := 0, cells := 0, slots := 0, locals := 0 } : Room) D [.ref r0] [(r0, .inr (1, [.int rCells, .int rSigns, .int rHour, .int rStops, .int rWaste, .int rDone, .int rBridged, .ref rKindA, .ref rRoomA, .ref rChargeA, .ref rLeakA, .ref rPlanA])), (rKindA, .inl (D.1 7, 5, .inl rKind)), (rRoomA, .inl (D.1 7, 5, .inl rRoom)), (rChargeA, .inl (D.1 7, 5, .inl rCharge)), (rLeakA, .inl (D.1 7, 5, .inl rLeak)), (rPlanA, .inl (D.1 7, 16, .inl rPlan))] (some (.int oR)) [(r0, .inr (1, [.int rCells, .int rSigns, .int rHour, .int rStops, .int rWaste, .int rDone, .int rBridged, .ref rKindA, .ref rRoomA, .ref rChargeA, .ref rLeakA, .ref rPlanA])), (rKindA, .inl (D.1 7, 5, .inl rKind)), (rRoomA, .inl (D.1 7, 5, .inl rRoom)), (rChargeA, .inl (D.1 7, 5, .inl rCharge)), (rLeakA, .inl (D.1 7, 5, .inl rLeak)), (rPlanA, .inl (D.1 7, 16, .inl rPlan))] := j_met (cc := cX1_signsSummed) (nl := 3) (rt := (some .int)) (own := RX1) (lv := [(0, .ref r0)]) (by decide +kernel) rfl rfl rfl (Nat.le_of_ble_eq_true rfl) (fun G C => t_X1_signsSummed_0 C hf)

