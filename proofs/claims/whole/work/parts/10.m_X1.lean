-- X1_becomes
theorem fl_X1_becomes_31 : Cond.fieldLink RX1 31 "CellsInRow$Row" "cells" "I" ∈ wsX1_becomes := by decide +kernel
theorem iw_X1_becomes_X1 : ∀ w ∈ wsX10, w ∈ wsX1_becomes := by decide +kernel
theorem fl_X1_becomes_34 : Cond.fieldLink RX1 34 "CellsInRow$Row" "signs" "I" ∈ wsX1_becomes := by decide +kernel
theorem fl_X1_becomes_37 : Cond.fieldLink RX1 37 "CellsInRow$Row" "hour" "I" ∈ wsX1_becomes := by decide +kernel
theorem fl_X1_becomes_40 : Cond.fieldLink RX1 40 "CellsInRow$Row" "stops" "I" ∈ wsX1_becomes := by decide +kernel
theorem fl_X1_becomes_43 : Cond.fieldLink RX1 43 "CellsInRow$Row" "waste" "I" ∈ wsX1_becomes := by decide +kernel
theorem fl_X1_becomes_46 : Cond.fieldLink RX1 46 "CellsInRow$Row" "done" "I" ∈ wsX1_becomes := by decide +kernel
theorem fl_X1_becomes_15 : Cond.fieldLink RX1 15 "CellsInRow$Row" "kind" "[I" ∈ wsX1_becomes := by decide +kernel
theorem ac_X1_becomes : Cond.methodLink RX1 49 arraycopyName ∈ wsX1_becomes ∧ Cond.native arraycopyName ∈ wsX1_becomes ∧ Cond.static arraycopyName ∈ wsX1_becomes ∧ Cond.initialized "java/lang/System" ∈ wsX1_becomes := by decide +kernel
theorem fl_X1_becomes_19 : Cond.fieldLink RX1 19 "CellsInRow$Row" "room" "[I" ∈ wsX1_becomes := by decide +kernel
theorem fl_X1_becomes_22 : Cond.fieldLink RX1 22 "CellsInRow$Row" "charge" "[I" ∈ wsX1_becomes := by decide +kernel
theorem fl_X1_becomes_25 : Cond.fieldLink RX1 25 "CellsInRow$Row" "leak" "[I" ∈ wsX1_becomes := by decide +kernel
theorem fl_X1_becomes_28 : Cond.fieldLink RX1 28 "CellsInRow$Row" "plan" "[I" ∈ wsX1_becomes := by decide +kernel
set_option maxHeartbeats 4000000 in
set_option maxRecDepth 100000 in
theorem t_X1_becomes_0 {G : jX} {D : va_G} {r0 rKindA rRoomA rChargeA rLeakA rPlanA q0 qKindA qRoomA qChargeA qLeakA qPlanA : Nat} {rCells : Int32} {rSigns : Int32} {rHour : Int32} {rStops : Int32} {rWaste : Int32} {rDone : Int32} {rBridged : Int32} {rKind : Nat → Int32} {rRoom : Nat → Int32} {rCharge : Nat → Int32} {rLeak : Nat → Int32} {rPlan : Nat → Int32} {qCells : Int32} {qSigns : Int32} {qHour : Int32} {qStops : Int32} {qWaste : Int32} {qDone : Int32} {qBridged : Int32} {qKind : Nat → Int32} {qRoom : Nat → Int32} {qCharge : Nat → Int32} {qLeak : Nat → Int32} {qPlan : Nat → Int32} {oRCells : Int32} {oRSigns : Int32} {oRHour : Int32} {oRStops : Int32} {oRWaste : Int32} {oRDone : Int32} {oRKind : Nat → Int32} {oRRoom : Nat → Int32} {oRCharge : Nat → Int32} {oRLeak : Nat → Int32} {oRPlan : Nat → Int32} (C : KC G D cX1_becomes RX1 wsX1_becomes ({ frames := 1, cells := 0, slots := 0, locals := 40 } : Room) 2 none none [(r0, .inr (1, [.int oRCells, .int oRSigns, .int oRHour, .int oRStops, .int oRWaste, .int oRDone, .int rBridged, .ref rKindA, .ref rRoomA, .ref rChargeA, .ref rLeakA, .ref rPlanA])), (rKindA, .inl (D.1 7, 5, .inl oRKind)), (rRoomA, .inl (D.1 7, 5, .inl oRRoom)), (rChargeA, .inl (D.1 7, 5, .inl oRCharge)), (rLeakA, .inl (D.1 7, 5, .inl oRLeak)), (rPlanA, .inl (D.1 7, 16, .inl oRPlan)), (q0, .inr (1, [.int qCells, .int qSigns, .int qHour, .int qStops, .int qWaste, .int qDone, .int qBridged, .ref qKindA, .ref qRoomA, .ref qChargeA, .ref qLeakA, .ref qPlanA])), (qKindA, .inl (D.1 7, 5, .inl qKind)), (qRoomA, .inl (D.1 7, 5, .inl qRoom)), (qChargeA, .inl (D.1 7, 5, .inl qCharge)), (qLeakA, .inl (D.1 7, 5, .inl qLeak)), (qPlanA, .inl (D.1 7, 16, .inl qPlan))]) (hf : f_X1_becomes rCells rSigns rHour rStops rWaste rDone rKind rRoom rCharge rLeak rPlan qCells qSigns qHour qStops qWaste qDone qKind qRoom qCharge qLeak qPlan = some (oRCells, oRSigns, oRHour, oRStops, oRWaste, oRDone, oRKind, oRRoom, oRCharge, oRLeak, oRPlan)) : JW G D 0 [(0, .ref r0), (1, .ref q0)] [] [(r0, .inr (1, [.int rCells, .int rSigns, .int rHour, .int rStops, .int rWaste, .int rDone, .int rBridged, .ref rKindA, .ref rRoomA, .ref rChargeA, .ref rLeakA, .ref rPlanA])), (rKindA, .inl (D.1 7, 5, .inl rKind)), (rRoomA, .inl (D.1 7, 5, .inl rRoom)), (rChargeA, .inl (D.1 7, 5, .inl rCharge)), (rLeakA, .inl (D.1 7, 5, .inl rLeak)), (rPlanA, .inl (D.1 7, 16, .inl rPlan)), (q0, .inr (1, [.int qCells, .int qSigns, .int qHour, .int qStops, .int qWaste, .int qDone, .int qBridged, .ref qKindA, .ref qRoomA, .ref qChargeA, .ref qLeakA, .ref qPlanA])), (qKindA, .inl (D.1 7, 5, .inl qKind)), (qRoomA, .inl (D.1 7, 5, .inl qRoom)), (qChargeA, .inl (D.1 7, 5, .inl qCharge)), (qLeakA, .inl (D.1 7, 5, .inl qLeak)), (qPlanA, .inl (D.1 7, 16, .inl qPlan))] := by
  unfold f_X1_becomes at hf
  refine j_aload_n (pc := 0) C 0 rfl dX1_becomes_0 ?_
  refine j_aload_n (pc := 1) C 1 rfl dX1_becomes_1 ?_
  refine j_get (pc := 2) 6 1 0 C iw_X1_becomes_X1 rfl rfl (by decide) fl_X1_becomes_31 rfl rfl dX1_becomes_2 ?_
  refine j_put (pc := 5) (ty := .int) 0 1 0 [(r0, .inr (1, [.int qCells, .int rSigns, .int rHour, .int rStops, .int rWaste, .int rDone, .int rBridged, .ref rKindA, .ref rRoomA, .ref rChargeA, .ref rLeakA, .ref rPlanA])), (rKindA, .inl (D.1 7, 5, .inl rKind)), (rRoomA, .inl (D.1 7, 5, .inl rRoom)), (rChargeA, .inl (D.1 7, 5, .inl rCharge)), (rLeakA, .inl (D.1 7, 5, .inl rLeak)), (rPlanA, .inl (D.1 7, 16, .inl rPlan)), (q0, .inr (1, [.int qCells, .int qSigns, .int qHour, .int qStops, .int qWaste, .int qDone, .int qBridged, .ref qKindA, .ref qRoomA, .ref qChargeA, .ref qLeakA, .ref qPlanA])), (qKindA, .inl (D.1 7, 5, .inl qKind)), (qRoomA, .inl (D.1 7, 5, .inl qRoom)), (qChargeA, .inl (D.1 7, 5, .inl qCharge)), (qLeakA, .inl (D.1 7, 5, .inl qLeak)), (qPlanA, .inl (D.1 7, 16, .inl qPlan))] C iw_X1_becomes_X1 tyX1 tyX1_ok nmX1 rfl rfl (by decide) fl_X1_becomes_31 rfl rfl rfl rfl rfl (Nat.le_of_ble_eq_true rfl) rfl dX1_becomes_5 ?_
  refine j_aload_n (pc := 8) C 0 rfl dX1_becomes_8 ?_
  refine j_aload_n (pc := 9) C 1 rfl dX1_becomes_9 ?_
  refine j_get (pc := 10) 6 1 1 C iw_X1_becomes_X1 rfl rfl (by decide) fl_X1_becomes_34 rfl rfl dX1_becomes_10 ?_
  refine j_put (pc := 13) (ty := .int) 0 1 1 [(r0, .inr (1, [.int qCells, .int qSigns, .int rHour, .int rStops, .int rWaste, .int rDone, .int rBridged, .ref rKindA, .ref rRoomA, .ref rChargeA, .ref rLeakA, .ref rPlanA])), (rKindA, .inl (D.1 7, 5, .inl rKind)), (rRoomA, .inl (D.1 7, 5, .inl rRoom)), (rChargeA, .inl (D.1 7, 5, .inl rCharge)), (rLeakA, .inl (D.1 7, 5, .inl rLeak)), (rPlanA, .inl (D.1 7, 16, .inl rPlan)), (q0, .inr (1, [.int qCells, .int qSigns, .int qHour, .int qStops, .int qWaste, .int qDone, .int qBridged, .ref qKindA, .ref qRoomA, .ref qChargeA, .ref qLeakA, .ref qPlanA])), (qKindA, .inl (D.1 7, 5, .inl qKind)), (qRoomA, .inl (D.1 7, 5, .inl qRoom)), (qChargeA, .inl (D.1 7, 5, .inl qCharge)), (qLeakA, .inl (D.1 7, 5, .inl qLeak)), (qPlanA, .inl (D.1 7, 16, .inl qPlan))] C iw_X1_becomes_X1 tyX1 tyX1_ok nmX1 rfl rfl (by decide) fl_X1_becomes_34 rfl rfl rfl rfl rfl (Nat.le_of_ble_eq_true rfl) rfl dX1_becomes_13 ?_
  refine j_aload_n (pc := 16) C 0 rfl dX1_becomes_16 ?_
  refine j_aload_n (pc := 17) C 1 rfl dX1_becomes_17 ?_
  refine j_get (pc := 18) 6 1 2 C iw_X1_becomes_X1 rfl rfl (by decide) fl_X1_becomes_37 rfl rfl dX1_becomes_18 ?_
  refine j_put (pc := 21) (ty := .int) 0 1 2 [(r0, .inr (1, [.int qCells, .int qSigns, .int qHour, .int rStops, .int rWaste, .int rDone, .int rBridged, .ref rKindA, .ref rRoomA, .ref rChargeA, .ref rLeakA, .ref rPlanA])), (rKindA, .inl (D.1 7, 5, .inl rKind)), (rRoomA, .inl (D.1 7, 5, .inl rRoom)), (rChargeA, .inl (D.1 7, 5, .inl rCharge)), (rLeakA, .inl (D.1 7, 5, .inl rLeak)), (rPlanA, .inl (D.1 7, 16, .inl rPlan)), (q0, .inr (1, [.int qCells, .int qSigns, .int qHour, .int qStops, .int qWaste, .int qDone, .int qBridged, .ref qKindA, .ref qRoomA, .ref qChargeA, .ref qLeakA, .ref qPlanA])), (qKindA, .inl (D.1 7, 5, .inl qKind)), (qRoomA, .inl (D.1 7, 5, .inl qRoom)), (qChargeA, .inl (D.1 7, 5, .inl qCharge)), (qLeakA, .inl (D.1 7, 5, .inl qLeak)), (qPlanA, .inl (D.1 7, 16, .inl qPlan))] C iw_X1_becomes_X1 tyX1 tyX1_ok nmX1 rfl rfl (by decide) fl_X1_becomes_37 rfl rfl rfl rfl rfl (Nat.le_of_ble_eq_true rfl) rfl dX1_becomes_21 ?_
  refine j_aload_n (pc := 24) C 0 rfl dX1_becomes_24 ?_
  refine j_aload_n (pc := 25) C 1 rfl dX1_becomes_25 ?_
  refine j_get (pc := 26) 6 1 3 C iw_X1_becomes_X1 rfl rfl (by decide) fl_X1_becomes_40 rfl rfl dX1_becomes_26 ?_
  refine j_put (pc := 29) (ty := .int) 0 1 3 [(r0, .inr (1, [.int qCells, .int qSigns, .int qHour, .int qStops, .int rWaste, .int rDone, .int rBridged, .ref rKindA, .ref rRoomA, .ref rChargeA, .ref rLeakA, .ref rPlanA])), (rKindA, .inl (D.1 7, 5, .inl rKind)), (rRoomA, .inl (D.1 7, 5, .inl rRoom)), (rChargeA, .inl (D.1 7, 5, .inl rCharge)), (rLeakA, .inl (D.1 7, 5, .inl rLeak)), (rPlanA, .inl (D.1 7, 16, .inl rPlan)), (q0, .inr (1, [.int qCells, .int qSigns, .int qHour, .int qStops, .int qWaste, .int qDone, .int qBridged, .ref qKindA, .ref qRoomA, .ref qChargeA, .ref qLeakA, .ref qPlanA])), (qKindA, .inl (D.1 7, 5, .inl qKind)), (qRoomA, .inl (D.1 7, 5, .inl qRoom)), (qChargeA, .inl (D.1 7, 5, .inl qCharge)), (qLeakA, .inl (D.1 7, 5, .inl qLeak)), (qPlanA, .inl (D.1 7, 16, .inl qPlan))] C iw_X1_becomes_X1 tyX1 tyX1_ok nmX1 rfl rfl (by decide) fl_X1_becomes_40 rfl rfl rfl rfl rfl (Nat.le_of_ble_eq_true rfl) rfl dX1_becomes_29 ?_
  refine j_aload_n (pc := 32) C 0 rfl dX1_becomes_32 ?_
  refine j_aload_n (pc := 33) C 1 rfl dX1_becomes_33 ?_
  refine j_get (pc := 34) 6 1 4 C iw_X1_becomes_X1 rfl rfl (by decide) fl_X1_becomes_43 rfl rfl dX1_becomes_34 ?_
  refine j_put (pc := 37) (ty := .int) 0 1 4 [(r0, .inr (1, [.int qCells, .int qSigns, .int qHour, .int qStops, .int qWaste, .int rDone, .int rBridged, .ref rKindA, .ref rRoomA, .ref rChargeA, .ref rLeakA, .ref rPlanA])), (rKindA, .inl (D.1 7, 5, .inl rKind)), (rRoomA, .inl (D.1 7, 5, .inl rRoom)), (rChargeA, .inl (D.1 7, 5, .inl rCharge)), (rLeakA, .inl (D.1 7, 5, .inl rLeak)), (rPlanA, .inl (D.1 7, 16, .inl rPlan)), (q0, .inr (1, [.int qCells, .int qSigns, .int qHour, .int qStops, .int qWaste, .int qDone, .int qBridged, .ref qKindA, .ref qRoomA, .ref qChargeA, .ref qLeakA, .ref qPlanA])), (qKindA, .inl (D.1 7, 5, .inl qKind)), (qRoomA, .inl (D.1 7, 5, .inl qRoom)), (qChargeA, .inl (D.1 7, 5, .inl qCharge)), (qLeakA, .inl (D.1 7, 5, .inl qLeak)), (qPlanA, .inl (D.1 7, 16, .inl qPlan))] C iw_X1_becomes_X1 tyX1 tyX1_ok nmX1 rfl rfl (by decide) fl_X1_becomes_43 rfl rfl rfl rfl rfl (Nat.le_of_ble_eq_true rfl) rfl dX1_becomes_37 ?_
  refine j_aload_n (pc := 40) C 0 rfl dX1_becomes_40 ?_
  refine j_aload_n (pc := 41) C 1 rfl dX1_becomes_41 ?_
  refine j_get (pc := 42) 6 1 5 C iw_X1_becomes_X1 rfl rfl (by decide) fl_X1_becomes_46 rfl rfl dX1_becomes_42 ?_
  refine j_put (pc := 45) (ty := .int) 0 1 5 [(r0, .inr (1, [.int qCells, .int qSigns, .int qHour, .int qStops, .int qWaste, .int qDone, .int rBridged, .ref rKindA, .ref rRoomA, .ref rChargeA, .ref rLeakA, .ref rPlanA])), (rKindA, .inl (D.1 7, 5, .inl rKind)), (rRoomA, .inl (D.1 7, 5, .inl rRoom)), (rChargeA, .inl (D.1 7, 5, .inl rCharge)), (rLeakA, .inl (D.1 7, 5, .inl rLeak)), (rPlanA, .inl (D.1 7, 16, .inl rPlan)), (q0, .inr (1, [.int qCells, .int qSigns, .int qHour, .int qStops, .int qWaste, .int qDone, .int qBridged, .ref qKindA, .ref qRoomA, .ref qChargeA, .ref qLeakA, .ref qPlanA])), (qKindA, .inl (D.1 7, 5, .inl qKind)), (qRoomA, .inl (D.1 7, 5, .inl qRoom)), (qChargeA, .inl (D.1 7, 5, .inl qCharge)), (qLeakA, .inl (D.1 7, 5, .inl qLeak)), (qPlanA, .inl (D.1 7, 16, .inl qPlan))] C iw_X1_becomes_X1 tyX1 tyX1_ok nmX1 rfl rfl (by decide) fl_X1_becomes_46 rfl rfl rfl rfl rfl (Nat.le_of_ble_eq_true rfl) rfl dX1_becomes_45 ?_
  refine j_aload_n (pc := 48) C 1 rfl dX1_becomes_48 ?_
  refine j_get (pc := 49) 6 1 7 C iw_X1_becomes_X1 rfl rfl (by decide) fl_X1_becomes_15 rfl rfl dX1_becomes_49 ?_
  refine j_iconst (pc := 52) 0 C (by decide) dX1_becomes_52 ?_
  refine j_aload_n (pc := 53) C 0 rfl dX1_becomes_53 ?_
  refine j_get (pc := 54) 0 1 7 C iw_X1_becomes_X1 rfl rfl (by decide) fl_X1_becomes_15 rfl rfl dX1_becomes_54 ?_
  refine j_iconst (pc := 57) 0 C (by decide) dX1_becomes_57 ?_
  refine j_iconst (pc := 58) 5 C (by decide) dX1_becomes_58 ?_
  refine j_copy (pc := 59) 7 1 [(r0, .inr (1, [.int qCells, .int qSigns, .int qHour, .int qStops, .int qWaste, .int qDone, .int rBridged, .ref rKindA, .ref rRoomA, .ref rChargeA, .ref rLeakA, .ref rPlanA])), (rKindA, .inl (D.1 7, 5, .inl (va_cpy qKind rKind (0 : Int32).toNatClampNeg (0 : Int32).toNatClampNeg (5 : Int32).toNatClampNeg))), (rRoomA, .inl (D.1 7, 5, .inl rRoom)), (rChargeA, .inl (D.1 7, 5, .inl rCharge)), (rLeakA, .inl (D.1 7, 5, .inl rLeak)), (rPlanA, .inl (D.1 7, 16, .inl rPlan)), (q0, .inr (1, [.int qCells, .int qSigns, .int qHour, .int qStops, .int qWaste, .int qDone, .int qBridged, .ref qKindA, .ref qRoomA, .ref qChargeA, .ref qLeakA, .ref qPlanA])), (qKindA, .inl (D.1 7, 5, .inl qKind)), (qRoomA, .inl (D.1 7, 5, .inl qRoom)), (qChargeA, .inl (D.1 7, 5, .inl qCharge)), (qLeakA, .inl (D.1 7, 5, .inl qLeak)), (qPlanA, .inl (D.1 7, 16, .inl qPlan))] C ac_X1_becomes.1 ac_X1_becomes.2.1 ac_X1_becomes.2.2.1 ac_X1_becomes.2.2.2 rfl rfl (by decide) (by decide) (by decide) (by decide) (by decide) (by decide) (Nat.le_of_ble_eq_true rfl) rfl dX1_becomes_59 ?_
  refine j_aload_n (pc := 62) C 1 rfl dX1_becomes_62 ?_
  refine j_get (pc := 63) 6 1 8 C iw_X1_becomes_X1 rfl rfl (by decide) fl_X1_becomes_19 rfl rfl dX1_becomes_63 ?_
  refine j_iconst (pc := 66) 0 C (by decide) dX1_becomes_66 ?_
  refine j_aload_n (pc := 67) C 0 rfl dX1_becomes_67 ?_
  refine j_get (pc := 68) 0 1 8 C iw_X1_becomes_X1 rfl rfl (by decide) fl_X1_becomes_19 rfl rfl dX1_becomes_68 ?_
  refine j_iconst (pc := 71) 0 C (by decide) dX1_becomes_71 ?_
  refine j_iconst (pc := 72) 5 C (by decide) dX1_becomes_72 ?_
  refine j_copy (pc := 73) 8 2 [(r0, .inr (1, [.int qCells, .int qSigns, .int qHour, .int qStops, .int qWaste, .int qDone, .int rBridged, .ref rKindA, .ref rRoomA, .ref rChargeA, .ref rLeakA, .ref rPlanA])), (rKindA, .inl (D.1 7, 5, .inl (va_cpy qKind rKind (0 : Int32).toNatClampNeg (0 : Int32).toNatClampNeg (5 : Int32).toNatClampNeg))), (rRoomA, .inl (D.1 7, 5, .inl (va_cpy qRoom rRoom (0 : Int32).toNatClampNeg (0 : Int32).toNatClampNeg (5 : Int32).toNatClampNeg))), (rChargeA, .inl (D.1 7, 5, .inl rCharge)), (rLeakA, .inl (D.1 7, 5, .inl rLeak)), (rPlanA, .inl (D.1 7, 16, .inl rPlan)), (q0, .inr (1, [.int qCells, .int qSigns, .int qHour, .int qStops, .int qWaste, .int qDone, .int qBridged, .ref qKindA, .ref qRoomA, .ref qChargeA, .ref qLeakA, .ref qPlanA])), (qKindA, .inl (D.1 7, 5, .inl qKind)), (qRoomA, .inl (D.1 7, 5, .inl qRoom)), (qChargeA, .inl (D.1 7, 5, .inl qCharge)), (qLeakA, .inl (D.1 7, 5, .inl qLeak)), (qPlanA, .inl (D.1 7, 16, .inl qPlan))] C ac_X1_becomes.1 ac_X1_becomes.2.1 ac_X1_becomes.2.2.1 ac_X1_becomes.2.2.2 rfl rfl (by decide) (by decide) (by decide) (by decide) (by decide) (by decide) (Nat.le_of_ble_eq_true rfl) rfl dX1_becomes_73 ?_
  refine j_aload_n (pc := 76) C 1 rfl dX1_becomes_76 ?_
  refine j_get (pc := 77) 6 1 9 C iw_X1_becomes_X1 rfl rfl (by decide) fl_X1_becomes_22 rfl rfl dX1_becomes_77 ?_
  refine j_iconst (pc := 80) 0 C (by decide) dX1_becomes_80 ?_
  refine j_aload_n (pc := 81) C 0 rfl dX1_becomes_81 ?_
  refine j_get (pc := 82) 0 1 9 C iw_X1_becomes_X1 rfl rfl (by decide) fl_X1_becomes_22 rfl rfl dX1_becomes_82 ?_
  refine j_iconst (pc := 85) 0 C (by decide) dX1_becomes_85 ?_
  refine j_iconst (pc := 86) 5 C (by decide) dX1_becomes_86 ?_
  refine j_copy (pc := 87) 9 3 [(r0, .inr (1, [.int qCells, .int qSigns, .int qHour, .int qStops, .int qWaste, .int qDone, .int rBridged, .ref rKindA, .ref rRoomA, .ref rChargeA, .ref rLeakA, .ref rPlanA])), (rKindA, .inl (D.1 7, 5, .inl (va_cpy qKind rKind (0 : Int32).toNatClampNeg (0 : Int32).toNatClampNeg (5 : Int32).toNatClampNeg))), (rRoomA, .inl (D.1 7, 5, .inl (va_cpy qRoom rRoom (0 : Int32).toNatClampNeg (0 : Int32).toNatClampNeg (5 : Int32).toNatClampNeg))), (rChargeA, .inl (D.1 7, 5, .inl (va_cpy qCharge rCharge (0 : Int32).toNatClampNeg (0 : Int32).toNatClampNeg (5 : Int32).toNatClampNeg))), (rLeakA, .inl (D.1 7, 5, .inl rLeak)), (rPlanA, .inl (D.1 7, 16, .inl rPlan)), (q0, .inr (1, [.int qCells, .int qSigns, .int qHour, .int qStops, .int qWaste, .int qDone, .int qBridged, .ref qKindA, .ref qRoomA, .ref qChargeA, .ref qLeakA, .ref qPlanA])), (qKindA, .inl (D.1 7, 5, .inl qKind)), (qRoomA, .inl (D.1 7, 5, .inl qRoom)), (qChargeA, .inl (D.1 7, 5, .inl qCharge)), (qLeakA, .inl (D.1 7, 5, .inl qLeak)), (qPlanA, .inl (D.1 7, 16, .inl qPlan))] C ac_X1_becomes.1 ac_X1_becomes.2.1 ac_X1_becomes.2.2.1 ac_X1_becomes.2.2.2 rfl rfl (by decide) (by decide) (by decide) (by decide) (by decide) (by decide) (Nat.le_of_ble_eq_true rfl) rfl dX1_becomes_87 ?_
  refine j_aload_n (pc := 90) C 1 rfl dX1_becomes_90 ?_
  refine j_get (pc := 91) 6 1 10 C iw_X1_becomes_X1 rfl rfl (by decide) fl_X1_becomes_25 rfl rfl dX1_becomes_91 ?_
  refine j_iconst (pc := 94) 0 C (by decide) dX1_becomes_94 ?_
  refine j_aload_n (pc := 95) C 0 rfl dX1_becomes_95 ?_
  refine j_get (pc := 96) 0 1 10 C iw_X1_becomes_X1 rfl rfl (by decide) fl_X1_becomes_25 rfl rfl dX1_becomes_96 ?_
  refine j_iconst (pc := 99) 0 C (by decide) dX1_becomes_99 ?_
  refine j_iconst (pc := 100) 5 C (by decide) dX1_becomes_100 ?_
  refine j_copy (pc := 101) 10 4 [(r0, .inr (1, [.int qCells, .int qSigns, .int qHour, .int qStops, .int qWaste, .int qDone, .int rBridged, .ref rKindA, .ref rRoomA, .ref rChargeA, .ref rLeakA, .ref rPlanA])), (rKindA, .inl (D.1 7, 5, .inl (va_cpy qKind rKind (0 : Int32).toNatClampNeg (0 : Int32).toNatClampNeg (5 : Int32).toNatClampNeg))), (rRoomA, .inl (D.1 7, 5, .inl (va_cpy qRoom rRoom (0 : Int32).toNatClampNeg (0 : Int32).toNatClampNeg (5 : Int32).toNatClampNeg))), (rChargeA, .inl (D.1 7, 5, .inl (va_cpy qCharge rCharge (0 : Int32).toNatClampNeg (0 : Int32).toNatClampNeg (5 : Int32).toNatClampNeg))), (rLeakA, .inl (D.1 7, 5, .inl (va_cpy qLeak rLeak (0 : Int32).toNatClampNeg (0 : Int32).toNatClampNeg (5 : Int32).toNatClampNeg))), (rPlanA, .inl (D.1 7, 16, .inl rPlan)), (q0, .inr (1, [.int qCells, .int qSigns, .int qHour, .int qStops, .int qWaste, .int qDone, .int qBridged, .ref qKindA, .ref qRoomA, .ref qChargeA, .ref qLeakA, .ref qPlanA])), (qKindA, .inl (D.1 7, 5, .inl qKind)), (qRoomA, .inl (D.1 7, 5, .inl qRoom)), (qChargeA, .inl (D.1 7, 5, .inl qCharge)), (qLeakA, .inl (D.1 7, 5, .inl qLeak)), (qPlanA, .inl (D.1 7, 16, .inl qPlan))] C ac_X1_becomes.1 ac_X1_becomes.2.1 ac_X1_becomes.2.2.1 ac_X1_becomes.2.2.2 rfl rfl (by decide) (by decide) (by decide) (by decide) (by decide) (by decide) (Nat.le_of_ble_eq_true rfl) rfl dX1_becomes_101 ?_
  refine j_aload_n (pc := 104) C 1 rfl dX1_becomes_104 ?_
  refine j_get (pc := 105) 6 1 11 C iw_X1_becomes_X1 rfl rfl (by decide) fl_X1_becomes_28 rfl rfl dX1_becomes_105 ?_
  refine j_iconst (pc := 108) 0 C (by decide) dX1_becomes_108 ?_
  refine j_aload_n (pc := 109) C 0 rfl dX1_becomes_109 ?_
  refine j_get (pc := 110) 0 1 11 C iw_X1_becomes_X1 rfl rfl (by decide) fl_X1_becomes_28 rfl rfl dX1_becomes_110 ?_
  refine j_iconst (pc := 113) 0 C (by decide) dX1_becomes_113 ?_
  refine j_bipush (pc := 114) 16 C (by decide) dX1_becomes_114 ?_
  refine j_copy (pc := 116) 11 5 [(r0, .inr (1, [.int qCells, .int qSigns, .int qHour, .int qStops, .int qWaste, .int qDone, .int rBridged, .ref rKindA, .ref rRoomA, .ref rChargeA, .ref rLeakA, .ref rPlanA])), (rKindA, .inl (D.1 7, 5, .inl (va_cpy qKind rKind (0 : Int32).toNatClampNeg (0 : Int32).toNatClampNeg (5 : Int32).toNatClampNeg))), (rRoomA, .inl (D.1 7, 5, .inl (va_cpy qRoom rRoom (0 : Int32).toNatClampNeg (0 : Int32).toNatClampNeg (5 : Int32).toNatClampNeg))), (rChargeA, .inl (D.1 7, 5, .inl (va_cpy qCharge rCharge (0 : Int32).toNatClampNeg (0 : Int32).toNatClampNeg (5 : Int32).toNatClampNeg))), (rLeakA, .inl (D.1 7, 5, .inl (va_cpy qLeak rLeak (0 : Int32).toNatClampNeg (0 : Int32).toNatClampNeg (5 : Int32).toNatClampNeg))), (rPlanA, .inl (D.1 7, 16, .inl (va_cpy qPlan rPlan (0 : Int32).toNatClampNeg (0 : Int32).toNatClampNeg (16 : Int32).toNatClampNeg))), (q0, .inr (1, [.int qCells, .int qSigns, .int qHour, .int qStops, .int qWaste, .int qDone, .int qBridged, .ref qKindA, .ref qRoomA, .ref qChargeA, .ref qLeakA, .ref qPlanA])), (qKindA, .inl (D.1 7, 5, .inl qKind)), (qRoomA, .inl (D.1 7, 5, .inl qRoom)), (qChargeA, .inl (D.1 7, 5, .inl qCharge)), (qLeakA, .inl (D.1 7, 5, .inl qLeak)), (qPlanA, .inl (D.1 7, 16, .inl qPlan))] C ac_X1_becomes.1 ac_X1_becomes.2.1 ac_X1_becomes.2.2.1 ac_X1_becomes.2.2.2 rfl rfl (by decide) (by decide) (by decide) (by decide) (by decide) (by decide) (Nat.le_of_ble_eq_true rfl) rfl dX1_becomes_116 ?_
  obtain ⟨rfl, rfl, rfl, rfl, rfl, rfl, rfl, rfl, rfl, rfl, rfl⟩ := si11 hf
  exact j_vret (pc := 119) C dX1_becomes_119
theorem k_X1_becomes : CK yX1_becomes wsX1_becomes cX1_becomes 2 none 1 := ⟨rfl, by decide +kernel⟩
theorem c_X1_becomes (D : va_G) (r0 rKindA rRoomA rChargeA rLeakA rPlanA q0 qKindA qRoomA qChargeA qLeakA qPlanA : Nat) (rCells : Int32) (rSigns : Int32) (rHour : Int32) (rStops : Int32) (rWaste : Int32) (rDone : Int32) (rBridged : Int32) (rKind : Nat → Int32) (rRoom : Nat → Int32) (rCharge : Nat → Int32) (rLeak : Nat → Int32) (rPlan : Nat → Int32) (qCells : Int32) (qSigns : Int32) (qHour : Int32) (qStops : Int32) (qWaste : Int32) (qDone : Int32) (qBridged : Int32) (qKind : Nat → Int32) (qRoom : Nat → Int32) (qCharge : Nat → Int32) (qLeak : Nat → Int32) (qPlan : Nat → Int32) (oRCells : Int32) (oRSigns : Int32) (oRHour : Int32) (oRStops : Int32) (oRWaste : Int32) (oRDone : Int32) (oRKind : Nat → Int32) (oRRoom : Nat → Int32) (oRCharge : Nat → Int32) (oRLeak : Nat → Int32) (oRPlan : Nat → Int32) (hf : f_X1_becomes rCells rSigns rHour rStops rWaste rDone rKind rRoom rCharge rLeak rPlan qCells qSigns qHour qStops qWaste qDone qKind qRoom qCharge qLeak qPlan = some (oRCells, oRSigns, oRHour, oRStops, oRWaste, oRDone, oRKind, oRRoom, oRCharge, oRLeak, oRPlan)) : ∀ l, MW l yX1_becomes wsX1_becomes ({ frames := 1, cells := 0, slots := 0, locals := 40 } : Room) D [.ref r0, .ref q0] [(r0, .inr (1, [.int rCells, .int rSigns, .int rHour, .int rStops, .int rWaste, .int rDone, .int rBridged, .ref rKindA, .ref rRoomA, .ref rChargeA, .ref rLeakA, .ref rPlanA])), (rKindA, .inl (D.1 7, 5, .inl rKind)), (rRoomA, .inl (D.1 7, 5, .inl rRoom)), (rChargeA, .inl (D.1 7, 5, .inl rCharge)), (rLeakA, .inl (D.1 7, 5, .inl rLeak)), (rPlanA, .inl (D.1 7, 16, .inl rPlan)), (q0, .inr (1, [.int qCells, .int qSigns, .int qHour, .int qStops, .int qWaste, .int qDone, .int qBridged, .ref qKindA, .ref qRoomA, .ref qChargeA, .ref qLeakA, .ref qPlanA])), (qKindA, .inl (D.1 7, 5, .inl qKind)), (qRoomA, .inl (D.1 7, 5, .inl qRoom)), (qChargeA, .inl (D.1 7, 5, .inl qCharge)), (qLeakA, .inl (D.1 7, 5, .inl qLeak)), (qPlanA, .inl (D.1 7, 16, .inl qPlan))] none [(r0, .inr (1, [.int oRCells, .int oRSigns, .int oRHour, .int oRStops, .int oRWaste, .int oRDone, .int rBridged, .ref rKindA, .ref rRoomA, .ref rChargeA, .ref rLeakA, .ref rPlanA])), (rKindA, .inl (D.1 7, 5, .inl oRKind)), (rRoomA, .inl (D.1 7, 5, .inl oRRoom)), (rChargeA, .inl (D.1 7, 5, .inl oRCharge)), (rLeakA, .inl (D.1 7, 5, .inl oRLeak)), (rPlanA, .inl (D.1 7, 16, .inl oRPlan)), (q0, .inr (1, [.int qCells, .int qSigns, .int qHour, .int qStops, .int qWaste, .int qDone, .int qBridged, .ref qKindA, .ref qRoomA, .ref qChargeA, .ref qLeakA, .ref qPlanA])), (qKindA, .inl (D.1 7, 5, .inl qKind)), (qRoomA, .inl (D.1 7, 5, .inl qRoom)), (qChargeA, .inl (D.1 7, 5, .inl qCharge)), (qLeakA, .inl (D.1 7, 5, .inl qLeak)), (qPlanA, .inl (D.1 7, 16, .inl qPlan))] := j_met (cc := cX1_becomes) (nl := 2) (rt := none) (own := RX1) (lv := [(0, .ref r0), (1, .ref q0)]) (by decide +kernel) rfl rfl rfl (Nat.le_of_ble_eq_true rfl) (fun G C => t_X1_becomes_0 C hf)

-- X1_becomesEmpty
theorem fl_X1_becomesEmpty_31 : Cond.fieldLink RX1 31 "CellsInRow$Row" "cells" "I" ∈ wsX1_becomesEmpty := by decide +kernel
theorem iw_X1_becomesEmpty_X1 : ∀ w ∈ wsX10, w ∈ wsX1_becomesEmpty := by decide +kernel
theorem fl_X1_becomesEmpty_34 : Cond.fieldLink RX1 34 "CellsInRow$Row" "signs" "I" ∈ wsX1_becomesEmpty := by decide +kernel
theorem fl_X1_becomesEmpty_37 : Cond.fieldLink RX1 37 "CellsInRow$Row" "hour" "I" ∈ wsX1_becomesEmpty := by decide +kernel
theorem fl_X1_becomesEmpty_40 : Cond.fieldLink RX1 40 "CellsInRow$Row" "stops" "I" ∈ wsX1_becomesEmpty := by decide +kernel
theorem fl_X1_becomesEmpty_43 : Cond.fieldLink RX1 43 "CellsInRow$Row" "waste" "I" ∈ wsX1_becomesEmpty := by decide +kernel
theorem fl_X1_becomesEmpty_46 : Cond.fieldLink RX1 46 "CellsInRow$Row" "done" "I" ∈ wsX1_becomesEmpty := by decide +kernel
set_option maxHeartbeats 4000000 in
set_option maxRecDepth 100000 in
theorem t_X1_becomesEmpty_0 {G : jX} {D : va_G} {r0 rKindA rRoomA rChargeA rLeakA rPlanA : Nat} {rCells : Int32} {rSigns : Int32} {rHour : Int32} {rStops : Int32} {rWaste : Int32} {rDone : Int32} {rBridged : Int32} {rKind : Nat → Int32} {rRoom : Nat → Int32} {rCharge : Nat → Int32} {rLeak : Nat → Int32} {rPlan : Nat → Int32} {oRCells : Int32} {oRSigns : Int32} {oRHour : Int32} {oRStops : Int32} {oRWaste : Int32} {oRDone : Int32} (C : KC G D cX1_becomesEmpty RX1 wsX1_becomesEmpty ({ frames := 0, cells := 0, slots := 0, locals := 0 } : Room) 1 none none [(r0, .inr (1, [.int oRCells, .int oRSigns, .int oRHour, .int oRStops, .int oRWaste, .int oRDone, .int rBridged, .ref rKindA, .ref rRoomA, .ref rChargeA, .ref rLeakA, .ref rPlanA])), (rKindA, .inl (D.1 7, 5, .inl rKind)), (rRoomA, .inl (D.1 7, 5, .inl rRoom)), (rChargeA, .inl (D.1 7, 5, .inl rCharge)), (rLeakA, .inl (D.1 7, 5, .inl rLeak)), (rPlanA, .inl (D.1 7, 16, .inl rPlan))]) (hf : f_X1_becomesEmpty rCells rSigns rHour rStops rWaste rDone = some (oRCells, oRSigns, oRHour, oRStops, oRWaste, oRDone)) : JW G D 0 [(0, .ref r0)] [] [(r0, .inr (1, [.int rCells, .int rSigns, .int rHour, .int rStops, .int rWaste, .int rDone, .int rBridged, .ref rKindA, .ref rRoomA, .ref rChargeA, .ref rLeakA, .ref rPlanA])), (rKindA, .inl (D.1 7, 5, .inl rKind)), (rRoomA, .inl (D.1 7, 5, .inl rRoom)), (rChargeA, .inl (D.1 7, 5, .inl rCharge)), (rLeakA, .inl (D.1 7, 5, .inl rLeak)), (rPlanA, .inl (D.1 7, 16, .inl rPlan))] := by
  unfold f_X1_becomesEmpty at hf
  refine j_aload_n (pc := 0) C 0 rfl dX1_becomesEmpty_0 ?_
  refine j_iconst (pc := 1) 0 C (by decide) dX1_becomesEmpty_1 ?_
  refine j_put (pc := 2) (ty := .int) 0 1 0 [(r0, .inr (1, [.int 0, .int rSigns, .int rHour, .int rStops, .int rWaste, .int rDone, .int rBridged, .ref rKindA, .ref rRoomA, .ref rChargeA, .ref rLeakA, .ref rPlanA])), (rKindA, .inl (D.1 7, 5, .inl rKind)), (rRoomA, .inl (D.1 7, 5, .inl rRoom)), (rChargeA, .inl (D.1 7, 5, .inl rCharge)), (rLeakA, .inl (D.1 7, 5, .inl rLeak)), (rPlanA, .inl (D.1 7, 16, .inl rPlan))] C iw_X1_becomesEmpty_X1 tyX1 tyX1_ok nmX1 rfl rfl (by decide) fl_X1_becomesEmpty_31 rfl rfl rfl rfl rfl (Nat.le_of_ble_eq_true rfl) rfl dX1_becomesEmpty_2 ?_
  refine j_aload_n (pc := 5) C 0 rfl dX1_becomesEmpty_5 ?_
  refine j_iconst (pc := 6) 0 C (by decide) dX1_becomesEmpty_6 ?_
  refine j_put (pc := 7) (ty := .int) 0 1 1 [(r0, .inr (1, [.int 0, .int 0, .int rHour, .int rStops, .int rWaste, .int rDone, .int rBridged, .ref rKindA, .ref rRoomA, .ref rChargeA, .ref rLeakA, .ref rPlanA])), (rKindA, .inl (D.1 7, 5, .inl rKind)), (rRoomA, .inl (D.1 7, 5, .inl rRoom)), (rChargeA, .inl (D.1 7, 5, .inl rCharge)), (rLeakA, .inl (D.1 7, 5, .inl rLeak)), (rPlanA, .inl (D.1 7, 16, .inl rPlan))] C iw_X1_becomesEmpty_X1 tyX1 tyX1_ok nmX1 rfl rfl (by decide) fl_X1_becomesEmpty_34 rfl rfl rfl rfl rfl (Nat.le_of_ble_eq_true rfl) rfl dX1_becomesEmpty_7 ?_
  refine j_aload_n (pc := 10) C 0 rfl dX1_becomesEmpty_10 ?_
  refine j_iconst (pc := 11) 0 C (by decide) dX1_becomesEmpty_11 ?_
  refine j_put (pc := 12) (ty := .int) 0 1 2 [(r0, .inr (1, [.int 0, .int 0, .int 0, .int rStops, .int rWaste, .int rDone, .int rBridged, .ref rKindA, .ref rRoomA, .ref rChargeA, .ref rLeakA, .ref rPlanA])), (rKindA, .inl (D.1 7, 5, .inl rKind)), (rRoomA, .inl (D.1 7, 5, .inl rRoom)), (rChargeA, .inl (D.1 7, 5, .inl rCharge)), (rLeakA, .inl (D.1 7, 5, .inl rLeak)), (rPlanA, .inl (D.1 7, 16, .inl rPlan))] C iw_X1_becomesEmpty_X1 tyX1 tyX1_ok nmX1 rfl rfl (by decide) fl_X1_becomesEmpty_37 rfl rfl rfl rfl rfl (Nat.le_of_ble_eq_true rfl) rfl dX1_becomesEmpty_12 ?_
  refine j_aload_n (pc := 15) C 0 rfl dX1_becomesEmpty_15 ?_
  refine j_iconst (pc := 16) 0 C (by decide) dX1_becomesEmpty_16 ?_
  refine j_put (pc := 17) (ty := .int) 0 1 3 [(r0, .inr (1, [.int 0, .int 0, .int 0, .int 0, .int rWaste, .int rDone, .int rBridged, .ref rKindA, .ref rRoomA, .ref rChargeA, .ref rLeakA, .ref rPlanA])), (rKindA, .inl (D.1 7, 5, .inl rKind)), (rRoomA, .inl (D.1 7, 5, .inl rRoom)), (rChargeA, .inl (D.1 7, 5, .inl rCharge)), (rLeakA, .inl (D.1 7, 5, .inl rLeak)), (rPlanA, .inl (D.1 7, 16, .inl rPlan))] C iw_X1_becomesEmpty_X1 tyX1 tyX1_ok nmX1 rfl rfl (by decide) fl_X1_becomesEmpty_40 rfl rfl rfl rfl rfl (Nat.le_of_ble_eq_true rfl) rfl dX1_becomesEmpty_17 ?_
  refine j_aload_n (pc := 20) C 0 rfl dX1_becomesEmpty_20 ?_
  refine j_iconst (pc := 21) 0 C (by decide) dX1_becomesEmpty_21 ?_
  refine j_put (pc := 22) (ty := .int) 0 1 4 [(r0, .inr (1, [.int 0, .int 0, .int 0, .int 0, .int 0, .int rDone, .int rBridged, .ref rKindA, .ref rRoomA, .ref rChargeA, .ref rLeakA, .ref rPlanA])), (rKindA, .inl (D.1 7, 5, .inl rKind)), (rRoomA, .inl (D.1 7, 5, .inl rRoom)), (rChargeA, .inl (D.1 7, 5, .inl rCharge)), (rLeakA, .inl (D.1 7, 5, .inl rLeak)), (rPlanA, .inl (D.1 7, 16, .inl rPlan))] C iw_X1_becomesEmpty_X1 tyX1 tyX1_ok nmX1 rfl rfl (by decide) fl_X1_becomesEmpty_43 rfl rfl rfl rfl rfl (Nat.le_of_ble_eq_true rfl) rfl dX1_becomesEmpty_22 ?_
  refine j_aload_n (pc := 25) C 0 rfl dX1_becomesEmpty_25 ?_
  refine j_iconst (pc := 26) 0 C (by decide) dX1_becomesEmpty_26 ?_
  refine j_put (pc := 27) (ty := .int) 0 1 5 [(r0, .inr (1, [.int 0, .int 0, .int 0, .int 0, .int 0, .int 0, .int rBridged, .ref rKindA, .ref rRoomA, .ref rChargeA, .ref rLeakA, .ref rPlanA])), (rKindA, .inl (D.1 7, 5, .inl rKind)), (rRoomA, .inl (D.1 7, 5, .inl rRoom)), (rChargeA, .inl (D.1 7, 5, .inl rCharge)), (rLeakA, .inl (D.1 7, 5, .inl rLeak)), (rPlanA, .inl (D.1 7, 16, .inl rPlan))] C iw_X1_becomesEmpty_X1 tyX1 tyX1_ok nmX1 rfl rfl (by decide) fl_X1_becomesEmpty_46 rfl rfl rfl rfl rfl (Nat.le_of_ble_eq_true rfl) rfl dX1_becomesEmpty_27 ?_
  obtain ⟨rfl, rfl, rfl, rfl, rfl, rfl⟩ := si6 hf
  exact j_vret (pc := 30) C dX1_becomesEmpty_30
theorem k_X1_becomesEmpty : CK yX1_becomesEmpty wsX1_becomesEmpty cX1_becomesEmpty 1 none 0 := ⟨rfl, by decide +kernel⟩
theorem c_X1_becomesEmpty (D : va_G) (r0 rKindA rRoomA rChargeA rLeakA rPlanA : Nat) (rCells : Int32) (rSigns : Int32) (rHour : Int32) (rStops : Int32) (rWaste : Int32) (rDone : Int32) (rBridged : Int32) (rKind : Nat → Int32) (rRoom : Nat → Int32) (rCharge : Nat → Int32) (rLeak : Nat → Int32) (rPlan : Nat → Int32) (oRCells : Int32) (oRSigns : Int32) (oRHour : Int32) (oRStops : Int32) (oRWaste : Int32) (oRDone : Int32) (hf : f_X1_becomesEmpty rCells rSigns rHour rStops rWaste rDone = some (oRCells, oRSigns, oRHour, oRStops, oRWaste, oRDone)) : ∀ l, MW l yX1_becomesEmpty wsX1_becomesEmpty ({ frames := 0, cells := 0, slots := 0, locals := 0 } : Room) D [.ref r0] [(r0, .inr (1, [.int rCells, .int rSigns, .int rHour, .int rStops, .int rWaste, .int rDone, .int rBridged, .ref rKindA, .ref rRoomA, .ref rChargeA, .ref rLeakA, .ref rPlanA])), (rKindA, .inl (D.1 7, 5, .inl rKind)), (rRoomA, .inl (D.1 7, 5, .inl rRoom)), (rChargeA, .inl (D.1 7, 5, .inl rCharge)), (rLeakA, .inl (D.1 7, 5, .inl rLeak)), (rPlanA, .inl (D.1 7, 16, .inl rPlan))] none [(r0, .inr (1, [.int oRCells, .int oRSigns, .int oRHour, .int oRStops, .int oRWaste, .int oRDone, .int rBridged, .ref rKindA, .ref rRoomA, .ref rChargeA, .ref rLeakA, .ref rPlanA])), (rKindA, .inl (D.1 7, 5, .inl rKind)), (rRoomA, .inl (D.1 7, 5, .inl rRoom)), (rChargeA, .inl (D.1 7, 5, .inl rCharge)), (rLeakA, .inl (D.1 7, 5, .inl rLeak)), (rPlanA, .inl (D.1 7, 16, .inl rPlan))] := j_met (cc := cX1_becomesEmpty) (nl := 1) (rt := none) (own := RX1) (lv := [(0, .ref r0)]) (by decide +kernel) rfl rfl rfl (Nat.le_of_ble_eq_true rfl) (fun G C => t_X1_becomesEmpty_0 C hf)

-- X1_appendCell
theorem fl_X1_appendCell_31 : Cond.fieldLink RX1 31 "CellsInRow$Row" "cells" "I" ∈ wsX1_appendCell := by decide +kernel
theorem iw_X1_appendCell_X1 : ∀ w ∈ wsX10, w ∈ wsX1_appendCell := by decide +kernel
theorem fl_X1_appendCell_15 : Cond.fieldLink RX1 15 "CellsInRow$Row" "kind" "[I" ∈ wsX1_appendCell := by decide +kernel
theorem fl_X1_appendCell_19 : Cond.fieldLink RX1 19 "CellsInRow$Row" "room" "[I" ∈ wsX1_appendCell := by decide +kernel
theorem fl_X1_appendCell_22 : Cond.fieldLink RX1 22 "CellsInRow$Row" "charge" "[I" ∈ wsX1_appendCell := by decide +kernel
theorem fl_X1_appendCell_25 : Cond.fieldLink RX1 25 "CellsInRow$Row" "leak" "[I" ∈ wsX1_appendCell := by decide +kernel
set_option maxHeartbeats 4000000 in
set_option maxRecDepth 100000 in
theorem t_X1_appendCell_0 {G : jX} {D : va_G} {r0 rKindA rRoomA rChargeA rLeakA rPlanA : Nat} {v1 : Int32} {v2 : Int32} {v3 : Int32} {v4 : Int32} {rCells : Int32} {rSigns : Int32} {rHour : Int32} {rStops : Int32} {rWaste : Int32} {rDone : Int32} {rBridged : Int32} {rKind : Nat → Int32} {rRoom : Nat → Int32} {rCharge : Nat → Int32} {rLeak : Nat → Int32} {rPlan : Nat → Int32} {oRCells : Int32} {oRKind : Nat → Int32} {oRRoom : Nat → Int32} {oRCharge : Nat → Int32} {oRLeak : Nat → Int32} (C : KC G D cX1_appendCell RX1 wsX1_appendCell ({ frames := 0, cells := 0, slots := 0, locals := 0 } : Room) 5 none none [(r0, .inr (1, [.int oRCells, .int rSigns, .int rHour, .int rStops, .int rWaste, .int rDone, .int rBridged, .ref rKindA, .ref rRoomA, .ref rChargeA, .ref rLeakA, .ref rPlanA])), (rKindA, .inl (D.1 7, 5, .inl oRKind)), (rRoomA, .inl (D.1 7, 5, .inl oRRoom)), (rChargeA, .inl (D.1 7, 5, .inl oRCharge)), (rLeakA, .inl (D.1 7, 5, .inl oRLeak)), (rPlanA, .inl (D.1 7, 16, .inl rPlan))]) (hf : f_X1_appendCell v1 v2 v3 v4 rCells rKind rRoom rCharge rLeak = some (oRCells, oRKind, oRRoom, oRCharge, oRLeak)) : JW G D 0 [(0, .ref r0), (1, .int v1), (2, .int v2), (3, .int v3), (4, .int v4)] [] [(r0, .inr (1, [.int rCells, .int rSigns, .int rHour, .int rStops, .int rWaste, .int rDone, .int rBridged, .ref rKindA, .ref rRoomA, .ref rChargeA, .ref rLeakA, .ref rPlanA])), (rKindA, .inl (D.1 7, 5, .inl rKind)), (rRoomA, .inl (D.1 7, 5, .inl rRoom)), (rChargeA, .inl (D.1 7, 5, .inl rCharge)), (rLeakA, .inl (D.1 7, 5, .inl rLeak)), (rPlanA, .inl (D.1 7, 16, .inl rPlan))] := by
  unfold f_X1_appendCell at hf
  refine j_aload_n (pc := 0) C 0 rfl dX1_appendCell_0 ?_
  refine j_get (pc := 1) 0 1 0 C iw_X1_appendCell_X1 rfl rfl (by decide) fl_X1_appendCell_31 rfl rfl dX1_appendCell_1 ?_
  refine j_iconst (pc := 4) 5 C (by decide) dX1_appendCell_4 ?_
  refine j_icmp_ge (pc := 5) 59 C hf (by decide) dX1_appendCell_5 (fun hf => ?_) (fun hf => ?_)
  · obtain ⟨rfl, rfl, rfl, rfl, rfl⟩ := si5 hf
    exact j_vret (pc := 59) C dX1_appendCell_59
  · refine j_aload_n (pc := 8) C 0 rfl dX1_appendCell_8 ?_
    refine j_get (pc := 9) 0 1 7 C iw_X1_appendCell_X1 rfl rfl (by decide) fl_X1_appendCell_15 rfl rfl dX1_appendCell_9 ?_
    refine j_aload_n (pc := 12) C 0 rfl dX1_appendCell_12 ?_
    refine j_get (pc := 13) 0 1 0 C iw_X1_appendCell_X1 rfl rfl (by decide) fl_X1_appendCell_31 rfl rfl dX1_appendCell_13 ?_
    refine j_iload_n (pc := 16) C 1 rfl dX1_appendCell_16 ?_
    refine j_iast (pc := 17) 1 [(r0, .inr (1, [.int rCells, .int rSigns, .int rHour, .int rStops, .int rWaste, .int rDone, .int rBridged, .ref rKindA, .ref rRoomA, .ref rChargeA, .ref rLeakA, .ref rPlanA])), (rKindA, .inl (D.1 7, 5, .inl (upd rKind rCells.toNatClampNeg v1))), (rRoomA, .inl (D.1 7, 5, .inl rRoom)), (rChargeA, .inl (D.1 7, 5, .inl rCharge)), (rLeakA, .inl (D.1 7, 5, .inl rLeak)), (rPlanA, .inl (D.1 7, 16, .inl rPlan))] C rfl rfl hf dX1_appendCell_17 (fun hf => ?_)
    refine j_aload_n (pc := 18) C 0 rfl dX1_appendCell_18 ?_
    refine j_get (pc := 19) 0 1 8 C iw_X1_appendCell_X1 rfl rfl (by decide) fl_X1_appendCell_19 rfl rfl dX1_appendCell_19 ?_
    refine j_aload_n (pc := 22) C 0 rfl dX1_appendCell_22 ?_
    refine j_get (pc := 23) 0 1 0 C iw_X1_appendCell_X1 rfl rfl (by decide) fl_X1_appendCell_31 rfl rfl dX1_appendCell_23 ?_
    refine j_iload_n (pc := 26) C 2 rfl dX1_appendCell_26 ?_
    refine j_iast (pc := 27) 2 [(r0, .inr (1, [.int rCells, .int rSigns, .int rHour, .int rStops, .int rWaste, .int rDone, .int rBridged, .ref rKindA, .ref rRoomA, .ref rChargeA, .ref rLeakA, .ref rPlanA])), (rKindA, .inl (D.1 7, 5, .inl (upd rKind rCells.toNatClampNeg v1))), (rRoomA, .inl (D.1 7, 5, .inl (upd rRoom rCells.toNatClampNeg v2))), (rChargeA, .inl (D.1 7, 5, .inl rCharge)), (rLeakA, .inl (D.1 7, 5, .inl rLeak)), (rPlanA, .inl (D.1 7, 16, .inl rPlan))] C rfl rfl hf dX1_appendCell_27 (fun hf => ?_)
    refine j_aload_n (pc := 28) C 0 rfl dX1_appendCell_28 ?_
    refine j_get (pc := 29) 0 1 9 C iw_X1_appendCell_X1 rfl rfl (by decide) fl_X1_appendCell_22 rfl rfl dX1_appendCell_29 ?_
    refine j_aload_n (pc := 32) C 0 rfl dX1_appendCell_32 ?_
    refine j_get (pc := 33) 0 1 0 C iw_X1_appendCell_X1 rfl rfl (by decide) fl_X1_appendCell_31 rfl rfl dX1_appendCell_33 ?_
    refine j_iload_n (pc := 36) C 3 rfl dX1_appendCell_36 ?_
    refine j_iast (pc := 37) 3 [(r0, .inr (1, [.int rCells, .int rSigns, .int rHour, .int rStops, .int rWaste, .int rDone, .int rBridged, .ref rKindA, .ref rRoomA, .ref rChargeA, .ref rLeakA, .ref rPlanA])), (rKindA, .inl (D.1 7, 5, .inl (upd rKind rCells.toNatClampNeg v1))), (rRoomA, .inl (D.1 7, 5, .inl (upd rRoom rCells.toNatClampNeg v2))), (rChargeA, .inl (D.1 7, 5, .inl (upd rCharge rCells.toNatClampNeg v3))), (rLeakA, .inl (D.1 7, 5, .inl rLeak)), (rPlanA, .inl (D.1 7, 16, .inl rPlan))] C rfl rfl hf dX1_appendCell_37 (fun hf => ?_)
    refine j_aload_n (pc := 38) C 0 rfl dX1_appendCell_38 ?_
    refine j_get (pc := 39) 0 1 10 C iw_X1_appendCell_X1 rfl rfl (by decide) fl_X1_appendCell_25 rfl rfl dX1_appendCell_39 ?_
    refine j_aload_n (pc := 42) C 0 rfl dX1_appendCell_42 ?_
    refine j_get (pc := 43) 0 1 0 C iw_X1_appendCell_X1 rfl rfl (by decide) fl_X1_appendCell_31 rfl rfl dX1_appendCell_43 ?_
    refine j_iload (pc := 46) C 4 rfl dX1_appendCell_46 ?_
    refine j_iast (pc := 48) 4 [(r0, .inr (1, [.int rCells, .int rSigns, .int rHour, .int rStops, .int rWaste, .int rDone, .int rBridged, .ref rKindA, .ref rRoomA, .ref rChargeA, .ref rLeakA, .ref rPlanA])), (rKindA, .inl (D.1 7, 5, .inl (upd rKind rCells.toNatClampNeg v1))), (rRoomA, .inl (D.1 7, 5, .inl (upd rRoom rCells.toNatClampNeg v2))), (rChargeA, .inl (D.1 7, 5, .inl (upd rCharge rCells.toNatClampNeg v3))), (rLeakA, .inl (D.1 7, 5, .inl (upd rLeak rCells.toNatClampNeg v4))), (rPlanA, .inl (D.1 7, 16, .inl rPlan))] C rfl rfl hf dX1_appendCell_48 (fun hf => ?_)
    refine j_aload_n (pc := 49) C 0 rfl dX1_appendCell_49 ?_
    refine j_dup (pc := 50) C rfl dX1_appendCell_50 ?_
    refine j_get (pc := 51) 0 1 0 C iw_X1_appendCell_X1 rfl rfl (by decide) fl_X1_appendCell_31 rfl rfl dX1_appendCell_51 ?_
    refine j_iconst (pc := 54) 1 C (by decide) dX1_appendCell_54 ?_
    refine j_iadd (pc := 55) C dX1_appendCell_55 ?_
    refine j_put (pc := 56) (ty := .int) 0 1 0 [(r0, .inr (1, [.int (rCells + 1), .int rSigns, .int rHour, .int rStops, .int rWaste, .int rDone, .int rBridged, .ref rKindA, .ref rRoomA, .ref rChargeA, .ref rLeakA, .ref rPlanA])), (rKindA, .inl (D.1 7, 5, .inl (upd rKind rCells.toNatClampNeg v1))), (rRoomA, .inl (D.1 7, 5, .inl (upd rRoom rCells.toNatClampNeg v2))), (rChargeA, .inl (D.1 7, 5, .inl (upd rCharge rCells.toNatClampNeg v3))), (rLeakA, .inl (D.1 7, 5, .inl (upd rLeak rCells.toNatClampNeg v4))), (rPlanA, .inl (D.1 7, 16, .inl rPlan))] C iw_X1_appendCell_X1 tyX1 tyX1_ok nmX1 rfl rfl (by decide) fl_X1_appendCell_31 rfl rfl rfl rfl rfl (Nat.le_of_ble_eq_true rfl) rfl dX1_appendCell_56 ?_
    obtain ⟨rfl, rfl, rfl, rfl, rfl⟩ := si5 hf
    exact j_vret (pc := 59) C dX1_appendCell_59
theorem k_X1_appendCell : CK yX1_appendCell wsX1_appendCell cX1_appendCell 5 none 4 := ⟨rfl, by decide +kernel⟩
theorem c_X1_appendCell (D : va_G) (r0 rKindA rRoomA rChargeA rLeakA rPlanA : Nat) (v1 : Int32) (v2 : Int32) (v3 : Int32) (v4 : Int32) (rCells : Int32) (rSigns : Int32) (rHour : Int32) (rStops : Int32) (rWaste : Int32) (rDone : Int32) (rBridged : Int32) (rKind : Nat → Int32) (rRoom : Nat → Int32) (rCharge : Nat → Int32) (rLeak : Nat → Int32) (rPlan : Nat → Int32) (oRCells : Int32) (oRKind : Nat → Int32) (oRRoom : Nat → Int32) (oRCharge : Nat → Int32) (oRLeak : Nat → Int32) (hf : f_X1_appendCell v1 v2 v3 v4 rCells rKind rRoom rCharge rLeak = some (oRCells, oRKind, oRRoom, oRCharge, oRLeak)) : ∀ l, MW l yX1_appendCell wsX1_appendCell ({ frames := 0, cells := 0, slots := 0, locals := 0 } : Room) D [.ref r0, .int v1, .int v2, .int v3, .int v4] [(r0, .inr (1, [.int rCells, .int rSigns, .int rHour, .int rStops, .int rWaste, .int rDone, .int rBridged, .ref rKindA, .ref rRoomA, .ref rChargeA, .ref rLeakA, .ref rPlanA])), (rKindA, .inl (D.1 7, 5, .inl rKind)), (rRoomA, .inl (D.1 7, 5, .inl rRoom)), (rChargeA, .inl (D.1 7, 5, .inl rCharge)), (rLeakA, .inl (D.1 7, 5, .inl rLeak)), (rPlanA, .inl (D.1 7, 16, .inl rPlan))] none [(r0, .inr (1, [.int oRCells, .int rSigns, .int rHour, .int rStops, .int rWaste, .int rDone, .int rBridged, .ref rKindA, .ref rRoomA, .ref rChargeA, .ref rLeakA, .ref rPlanA])), (rKindA, .inl (D.1 7, 5, .inl oRKind)), (rRoomA, .inl (D.1 7, 5, .inl oRRoom)), (rChargeA, .inl (D.1 7, 5, .inl oRCharge)), (rLeakA, .inl (D.1 7, 5, .inl oRLeak)), (rPlanA, .inl (D.1 7, 16, .inl rPlan))] := j_met (cc := cX1_appendCell) (nl := 5) (rt := none) (own := RX1) (lv := [(0, .ref r0), (1, .int v1), (2, .int v2), (3, .int v3), (4, .int v4)]) (by decide +kernel) rfl rfl rfl (Nat.le_of_ble_eq_true rfl) (fun G C => t_X1_appendCell_0 C hf)

-- X1_appendSign
theorem fl_X1_appendSign_34 : Cond.fieldLink RX1 34 "CellsInRow$Row" "signs" "I" ∈ wsX1_appendSign := by decide +kernel
theorem iw_X1_appendSign_X1 : ∀ w ∈ wsX10, w ∈ wsX1_appendSign := by decide +kernel
theorem fl_X1_appendSign_28 : Cond.fieldLink RX1 28 "CellsInRow$Row" "plan" "[I" ∈ wsX1_appendSign := by decide +kernel
set_option maxHeartbeats 4000000 in
set_option maxRecDepth 100000 in
theorem t_X1_appendSign_0 {G : jX} {D : va_G} {r0 rKindA rRoomA rChargeA rLeakA rPlanA : Nat} {v1 : Int32} {rCells : Int32} {rSigns : Int32} {rHour : Int32} {rStops : Int32} {rWaste : Int32} {rDone : Int32} {rBridged : Int32} {rKind : Nat → Int32} {rRoom : Nat → Int32} {rCharge : Nat → Int32} {rLeak : Nat → Int32} {rPlan : Nat → Int32} {oRSigns : Int32} {oRPlan : Nat → Int32} (C : KC G D cX1_appendSign RX1 wsX1_appendSign ({ frames := 0, cells := 0, slots := 0, locals := 0 } : Room) 2 none none [(r0, .inr (1, [.int rCells, .int oRSigns, .int rHour, .int rStops, .int rWaste, .int rDone, .int rBridged, .ref rKindA, .ref rRoomA, .ref rChargeA, .ref rLeakA, .ref rPlanA])), (rKindA, .inl (D.1 7, 5, .inl rKind)), (rRoomA, .inl (D.1 7, 5, .inl rRoom)), (rChargeA, .inl (D.1 7, 5, .inl rCharge)), (rLeakA, .inl (D.1 7, 5, .inl rLeak)), (rPlanA, .inl (D.1 7, 16, .inl oRPlan))]) (hf : f_X1_appendSign v1 rSigns rPlan = some (oRSigns, oRPlan)) : JW G D 0 [(0, .ref r0), (1, .int v1)] [] [(r0, .inr (1, [.int rCells, .int rSigns, .int rHour, .int rStops, .int rWaste, .int rDone, .int rBridged, .ref rKindA, .ref rRoomA, .ref rChargeA, .ref rLeakA, .ref rPlanA])), (rKindA, .inl (D.1 7, 5, .inl rKind)), (rRoomA, .inl (D.1 7, 5, .inl rRoom)), (rChargeA, .inl (D.1 7, 5, .inl rCharge)), (rLeakA, .inl (D.1 7, 5, .inl rLeak)), (rPlanA, .inl (D.1 7, 16, .inl rPlan))] := by
  unfold f_X1_appendSign at hf
  refine j_aload_n (pc := 0) C 0 rfl dX1_appendSign_0 ?_
  refine j_get (pc := 1) 0 1 1 C iw_X1_appendSign_X1 rfl rfl (by decide) fl_X1_appendSign_34 rfl rfl dX1_appendSign_1 ?_
  refine j_bipush (pc := 4) 16 C (by decide) dX1_appendSign_4 ?_
  refine j_icmp_ge (pc := 6) 29 C hf (by decide) dX1_appendSign_6 (fun hf => ?_) (fun hf => ?_)
  · obtain ⟨rfl, rfl⟩ := si2 hf
    exact j_vret (pc := 29) C dX1_appendSign_29
  · refine j_aload_n (pc := 9) C 0 rfl dX1_appendSign_9 ?_
    refine j_get (pc := 10) 0 1 11 C iw_X1_appendSign_X1 rfl rfl (by decide) fl_X1_appendSign_28 rfl rfl dX1_appendSign_10 ?_
    refine j_aload_n (pc := 13) C 0 rfl dX1_appendSign_13 ?_
    refine j_get (pc := 14) 0 1 1 C iw_X1_appendSign_X1 rfl rfl (by decide) fl_X1_appendSign_34 rfl rfl dX1_appendSign_14 ?_
    refine j_iload_n (pc := 17) C 1 rfl dX1_appendSign_17 ?_
    refine j_iast (pc := 18) 5 [(r0, .inr (1, [.int rCells, .int rSigns, .int rHour, .int rStops, .int rWaste, .int rDone, .int rBridged, .ref rKindA, .ref rRoomA, .ref rChargeA, .ref rLeakA, .ref rPlanA])), (rKindA, .inl (D.1 7, 5, .inl rKind)), (rRoomA, .inl (D.1 7, 5, .inl rRoom)), (rChargeA, .inl (D.1 7, 5, .inl rCharge)), (rLeakA, .inl (D.1 7, 5, .inl rLeak)), (rPlanA, .inl (D.1 7, 16, .inl (upd rPlan rSigns.toNatClampNeg v1)))] C rfl rfl hf dX1_appendSign_18 (fun hf => ?_)
    refine j_aload_n (pc := 19) C 0 rfl dX1_appendSign_19 ?_
    refine j_dup (pc := 20) C rfl dX1_appendSign_20 ?_
    refine j_get (pc := 21) 0 1 1 C iw_X1_appendSign_X1 rfl rfl (by decide) fl_X1_appendSign_34 rfl rfl dX1_appendSign_21 ?_
    refine j_iconst (pc := 24) 1 C (by decide) dX1_appendSign_24 ?_
    refine j_iadd (pc := 25) C dX1_appendSign_25 ?_
    refine j_put (pc := 26) (ty := .int) 0 1 1 [(r0, .inr (1, [.int rCells, .int (rSigns + 1), .int rHour, .int rStops, .int rWaste, .int rDone, .int rBridged, .ref rKindA, .ref rRoomA, .ref rChargeA, .ref rLeakA, .ref rPlanA])), (rKindA, .inl (D.1 7, 5, .inl rKind)), (rRoomA, .inl (D.1 7, 5, .inl rRoom)), (rChargeA, .inl (D.1 7, 5, .inl rCharge)), (rLeakA, .inl (D.1 7, 5, .inl rLeak)), (rPlanA, .inl (D.1 7, 16, .inl (upd rPlan rSigns.toNatClampNeg v1)))] C iw_X1_appendSign_X1 tyX1 tyX1_ok nmX1 rfl rfl (by decide) fl_X1_appendSign_34 rfl rfl rfl rfl rfl (Nat.le_of_ble_eq_true rfl) rfl dX1_appendSign_26 ?_
    obtain ⟨rfl, rfl⟩ := si2 hf
    exact j_vret (pc := 29) C dX1_appendSign_29
theorem k_X1_appendSign : CK yX1_appendSign wsX1_appendSign cX1_appendSign 2 none 1 := ⟨rfl, by decide +kernel⟩
theorem c_X1_appendSign (D : va_G) (r0 rKindA rRoomA rChargeA rLeakA rPlanA : Nat) (v1 : Int32) (rCells : Int32) (rSigns : Int32) (rHour : Int32) (rStops : Int32) (rWaste : Int32) (rDone : Int32) (rBridged : Int32) (rKind : Nat → Int32) (rRoom : Nat → Int32) (rCharge : Nat → Int32) (rLeak : Nat → Int32) (rPlan : Nat → Int32) (oRSigns : Int32) (oRPlan : Nat → Int32) (hf : f_X1_appendSign v1 rSigns rPlan = some (oRSigns, oRPlan)) : ∀ l, MW l yX1_appendSign wsX1_appendSign ({ frames := 0, cells := 0, slots := 0, locals := 0 } : Room) D [.ref r0, .int v1] [(r0, .inr (1, [.int rCells, .int rSigns, .int rHour, .int rStops, .int rWaste, .int rDone, .int rBridged, .ref rKindA, .ref rRoomA, .ref rChargeA, .ref rLeakA, .ref rPlanA])), (rKindA, .inl (D.1 7, 5, .inl rKind)), (rRoomA, .inl (D.1 7, 5, .inl rRoom)), (rChargeA, .inl (D.1 7, 5, .inl rCharge)), (rLeakA, .inl (D.1 7, 5, .inl rLeak)), (rPlanA, .inl (D.1 7, 16, .inl rPlan))] none [(r0, .inr (1, [.int rCells, .int oRSigns, .int rHour, .int rStops, .int rWaste, .int rDone, .int rBridged, .ref rKindA, .ref rRoomA, .ref rChargeA, .ref rLeakA, .ref rPlanA])), (rKindA, .inl (D.1 7, 5, .inl rKind)), (rRoomA, .inl (D.1 7, 5, .inl rRoom)), (rChargeA, .inl (D.1 7, 5, .inl rCharge)), (rLeakA, .inl (D.1 7, 5, .inl rLeak)), (rPlanA, .inl (D.1 7, 16, .inl oRPlan))] := j_met (cc := cX1_appendSign) (nl := 2) (rt := none) (own := RX1) (lv := [(0, .ref r0), (1, .int v1)]) (by decide +kernel) rfl rfl rfl (Nat.le_of_ble_eq_true rfl) (fun G C => t_X1_appendSign_0 C hf)

-- X1_current
theorem fl_X1_current_34 : Cond.fieldLink RX1 34 "CellsInRow$Row" "signs" "I" ∈ wsX1_current := by decide +kernel
theorem iw_X1_current_X1 : ∀ w ∈ wsX10, w ∈ wsX1_current := by decide +kernel
theorem fl_X1_current_28 : Cond.fieldLink RX1 28 "CellsInRow$Row" "plan" "[I" ∈ wsX1_current := by decide +kernel
theorem fl_X1_current_37 : Cond.fieldLink RX1 37 "CellsInRow$Row" "hour" "I" ∈ wsX1_current := by decide +kernel
set_option maxHeartbeats 4000000 in
set_option maxRecDepth 100000 in
theorem t_X1_current_0 {G : jX} {D : va_G} {r0 rKindA rRoomA rChargeA rLeakA rPlanA : Nat} {rCells : Int32} {rSigns : Int32} {rHour : Int32} {rStops : Int32} {rWaste : Int32} {rDone : Int32} {rBridged : Int32} {rKind : Nat → Int32} {rRoom : Nat → Int32} {rCharge : Nat → Int32} {rLeak : Nat → Int32} {rPlan : Nat → Int32} {oR : Int32} (C : KC G D cX1_current RX1 wsX1_current ({ frames := 0, cells := 0, slots := 0, locals := 0 } : Room) 1 (some .int) (some (.int oR)) [(r0, .inr (1, [.int rCells, .int rSigns, .int rHour, .int rStops, .int rWaste, .int rDone, .int rBridged, .ref rKindA, .ref rRoomA, .ref rChargeA, .ref rLeakA, .ref rPlanA])), (rKindA, .inl (D.1 7, 5, .inl rKind)), (rRoomA, .inl (D.1 7, 5, .inl rRoom)), (rChargeA, .inl (D.1 7, 5, .inl rCharge)), (rLeakA, .inl (D.1 7, 5, .inl rLeak)), (rPlanA, .inl (D.1 7, 16, .inl rPlan))]) (hf : f_X1_current rSigns rHour rPlan = some oR) : JW G D 0 [(0, .ref r0)] [] [(r0, .inr (1, [.int rCells, .int rSigns, .int rHour, .int rStops, .int rWaste, .int rDone, .int rBridged, .ref rKindA, .ref rRoomA, .ref rChargeA, .ref rLeakA, .ref rPlanA])), (rKindA, .inl (D.1 7, 5, .inl rKind)), (rRoomA, .inl (D.1 7, 5, .inl rRoom)), (rChargeA, .inl (D.1 7, 5, .inl rCharge)), (rLeakA, .inl (D.1 7, 5, .inl rLeak)), (rPlanA, .inl (D.1 7, 16, .inl rPlan))] := by
  unfold f_X1_current at hf
  refine j_aload_n (pc := 0) C 0 rfl dX1_current_0 ?_
  refine j_get (pc := 1) 0 1 1 C iw_X1_current_X1 rfl rfl (by decide) fl_X1_current_34 rfl rfl dX1_current_1 ?_
  refine j_if_le (pc := 4) 27 C hf (by decide) dX1_current_4 (fun hf => ?_) (fun hf => ?_)
  · refine j_iconst (pc := 27) 0 C (by decide) dX1_current_27 ?_
    obtain rfl := si1 hf
    exact j_iret (pc := 28) C dX1_current_28
  · refine j_aload_n (pc := 7) C 0 rfl dX1_current_7 ?_
    refine j_get (pc := 8) 0 1 11 C iw_X1_current_X1 rfl rfl (by decide) fl_X1_current_28 rfl rfl dX1_current_8 ?_
    refine j_aload_n (pc := 11) C 0 rfl dX1_current_11 ?_
    refine j_get (pc := 12) 0 1 2 C iw_X1_current_X1 rfl rfl (by decide) fl_X1_current_37 rfl rfl dX1_current_12 ?_
    refine j_aload_n (pc := 15) C 0 rfl dX1_current_15 ?_
    refine j_get (pc := 16) 0 1 1 C iw_X1_current_X1 rfl rfl (by decide) fl_X1_current_34 rfl rfl dX1_current_16 ?_
    obtain ⟨hz, hf⟩ := dz_some hf
    refine j_irem (pc := 19) C hz dX1_current_19 ?_
    refine j_iald (pc := 20) 5 C rfl hf dX1_current_20 (fun hf => ?_)
    refine j_bipush (pc := 21) 9 C (by decide) dX1_current_21 ?_
    refine j_isub (pc := 23) C dX1_current_23 ?_
    refine j_goto (pc := 24) 28 C (by decide) dX1_current_24 ?_
    obtain rfl := si1 hf
    exact j_iret (pc := 28) C dX1_current_28
theorem k_X1_current : CK yX1_current wsX1_current cX1_current 1 (some .int) 0 := ⟨rfl, by decide +kernel⟩
theorem c_X1_current (D : va_G) (r0 rKindA rRoomA rChargeA rLeakA rPlanA : Nat) (rCells : Int32) (rSigns : Int32) (rHour : Int32) (rStops : Int32) (rWaste : Int32) (rDone : Int32) (rBridged : Int32) (rKind : Nat → Int32) (rRoom : Nat → Int32) (rCharge : Nat → Int32) (rLeak : Nat → Int32) (rPlan : Nat → Int32) (oR : Int32) (hf : f_X1_current rSigns rHour rPlan = some oR) : ∀ l, MW l yX1_current wsX1_current ({ frames := 0, cells := 0, slots := 0, locals := 0 } : Room) D [.ref r0] [(r0, .inr (1, [.int rCells, .int rSigns, .int rHour, .int rStops, .int rWaste, .int rDone, .int rBridged, .ref rKindA, .ref rRoomA, .ref rChargeA, .ref rLeakA, .ref rPlanA])), (rKindA, .inl (D.1 7, 5, .inl rKind)), (rRoomA, .inl (D.1 7, 5, .inl rRoom)), (rChargeA, .inl (D.1 7, 5, .inl rCharge)), (rLeakA, .inl (D.1 7, 5, .inl rLeak)), (rPlanA, .inl (D.1 7, 16, .inl rPlan))] (some (.int oR)) [(r0, .inr (1, [.int rCells, .int rSigns, .int rHour, .int rStops, .int rWaste, .int rDone, .int rBridged, .ref rKindA, .ref rRoomA, .ref rChargeA, .ref rLeakA, .ref rPlanA])), (rKindA, .inl (D.1 7, 5, .inl rKind)), (rRoomA, .inl (D.1 7, 5, .inl rRoom)), (rChargeA, .inl (D.1 7, 5, .inl rCharge)), (rLeakA, .inl (D.1 7, 5, .inl rLeak)), (rPlanA, .inl (D.1 7, 16, .inl rPlan))] := j_met (cc := cX1_current) (nl := 1) (rt := (some .int)) (own := RX1) (lv := [(0, .ref r0)]) (by decide +kernel) rfl rfl rfl (Nat.le_of_ble_eq_true rfl) (fun G C => t_X1_current_0 C hf)

-- X1_cellStopsBy
theorem fl_X1_cellStopsBy_15 : Cond.fieldLink RX1 15 "CellsInRow$Row" "kind" "[I" ∈ wsX1_cellStopsBy := by decide +kernel
theorem iw_X1_cellStopsBy_X1 : ∀ w ∈ wsX10, w ∈ wsX1_cellStopsBy := by decide +kernel
theorem fl_X1_cellStopsBy_22 : Cond.fieldLink RX1 22 "CellsInRow$Row" "charge" "[I" ∈ wsX1_cellStopsBy := by decide +kernel
theorem fl_X1_cellStopsBy_19 : Cond.fieldLink RX1 19 "CellsInRow$Row" "room" "[I" ∈ wsX1_cellStopsBy := by decide +kernel
set_option maxHeartbeats 4000000 in
set_option maxRecDepth 100000 in
theorem t_X1_cellStopsBy_0 {G : jX} {D : va_G} {r0 rKindA rRoomA rChargeA rLeakA rPlanA : Nat} {v1 : Int32} {v2 : Int32} {rCells : Int32} {rSigns : Int32} {rHour : Int32} {rStops : Int32} {rWaste : Int32} {rDone : Int32} {rBridged : Int32} {rKind : Nat → Int32} {rRoom : Nat → Int32} {rCharge : Nat → Int32} {rLeak : Nat → Int32} {rPlan : Nat → Int32} {oR : Int32} (C : KC G D cX1_cellStopsBy RX1 wsX1_cellStopsBy ({ frames := 0, cells := 0, slots := 0, locals := 0 } : Room) 3 (some .boolean) (some (.int oR)) [(r0, .inr (1, [.int rCells, .int rSigns, .int rHour, .int rStops, .int rWaste, .int rDone, .int rBridged, .ref rKindA, .ref rRoomA, .ref rChargeA, .ref rLeakA, .ref rPlanA])), (rKindA, .inl (D.1 7, 5, .inl rKind)), (rRoomA, .inl (D.1 7, 5, .inl rRoom)), (rChargeA, .inl (D.1 7, 5, .inl rCharge)), (rLeakA, .inl (D.1 7, 5, .inl rLeak)), (rPlanA, .inl (D.1 7, 16, .inl rPlan))]) (hf : f_X1_cellStopsBy v1 v2 rKind rRoom rCharge = some oR) : JW G D 0 [(0, .ref r0), (1, .int v1), (2, .int v2)] [] [(r0, .inr (1, [.int rCells, .int rSigns, .int rHour, .int rStops, .int rWaste, .int rDone, .int rBridged, .ref rKindA, .ref rRoomA, .ref rChargeA, .ref rLeakA, .ref rPlanA])), (rKindA, .inl (D.1 7, 5, .inl rKind)), (rRoomA, .inl (D.1 7, 5, .inl rRoom)), (rChargeA, .inl (D.1 7, 5, .inl rCharge)), (rLeakA, .inl (D.1 7, 5, .inl rLeak)), (rPlanA, .inl (D.1 7, 16, .inl rPlan))] := by
  unfold f_X1_cellStopsBy at hf
  refine j_iload_n (pc := 0) C 2 rfl dX1_cellStopsBy_0 ?_
  refine j_if_le (pc := 1) 36 C hf (by decide) dX1_cellStopsBy_1 (fun hf => ?_) (fun hf => ?_)
  · refine j_iload_n (pc := 36) C 2 rfl dX1_cellStopsBy_36 ?_
    refine j_if_ge (pc := 37) 65 C hf (by decide) dX1_cellStopsBy_37 (fun hf => ?_) (fun hf => ?_)
    · refine j_iconst (pc := 65) 0 C (by decide) dX1_cellStopsBy_65 ?_
      obtain rfl := si1 hf
      exact j_zret (pc := 66) C (by decide) dX1_cellStopsBy_66
    · refine j_aload_n (pc := 40) C 0 rfl dX1_cellStopsBy_40 ?_
      refine j_get (pc := 41) 0 1 7 C iw_X1_cellStopsBy_X1 rfl rfl (by decide) fl_X1_cellStopsBy_15 rfl rfl dX1_cellStopsBy_41 ?_
      refine j_iload_n (pc := 44) C 1 rfl dX1_cellStopsBy_44 ?_
      refine j_iald (pc := 45) 1 C rfl hf dX1_cellStopsBy_45 (fun hf => ?_)
      refine j_iconst (pc := 46) 3 C (by decide) dX1_cellStopsBy_46 ?_
      refine j_icmp_eq (pc := 47) 65 C hf (by decide) dX1_cellStopsBy_47 (fun hf => ?_) (fun hf => ?_)
      · refine j_iconst (pc := 65) 0 C (by decide) dX1_cellStopsBy_65 ?_
        obtain rfl := si1 hf
        exact j_zret (pc := 66) C (by decide) dX1_cellStopsBy_66
      · refine j_aload_n (pc := 50) C 0 rfl dX1_cellStopsBy_50 ?_
        refine j_get (pc := 51) 0 1 9 C iw_X1_cellStopsBy_X1 rfl rfl (by decide) fl_X1_cellStopsBy_22 rfl rfl dX1_cellStopsBy_51 ?_
        refine j_iload_n (pc := 54) C 1 rfl dX1_cellStopsBy_54 ?_
        refine j_iald (pc := 55) 3 C rfl hf dX1_cellStopsBy_55 (fun hf => ?_)
        refine j_iload_n (pc := 56) C 2 rfl dX1_cellStopsBy_56 ?_
        refine j_ineg (pc := 57) C dX1_cellStopsBy_57 ?_
        refine j_icmp_ge (pc := 58) 65 C hf (by decide) dX1_cellStopsBy_58 (fun hf => ?_) (fun hf => ?_)
        · refine j_iconst (pc := 65) 0 C (by decide) dX1_cellStopsBy_65 ?_
          obtain rfl := si1 hf
          exact j_zret (pc := 66) C (by decide) dX1_cellStopsBy_66
        · refine j_iconst (pc := 61) 1 C (by decide) dX1_cellStopsBy_61 ?_
          refine j_goto (pc := 62) 66 C (by decide) dX1_cellStopsBy_62 ?_
          obtain rfl := si1 hf
          exact j_zret (pc := 66) C (by decide) dX1_cellStopsBy_66
  · refine j_aload_n (pc := 4) C 0 rfl dX1_cellStopsBy_4 ?_
    refine j_get (pc := 5) 0 1 7 C iw_X1_cellStopsBy_X1 rfl rfl (by decide) fl_X1_cellStopsBy_15 rfl rfl dX1_cellStopsBy_5 ?_
    refine j_iload_n (pc := 8) C 1 rfl dX1_cellStopsBy_8 ?_
    refine j_iald (pc := 9) 1 C rfl hf dX1_cellStopsBy_9 (fun hf => ?_)
    refine j_if_ne (pc := 10) 34 C hf (by decide) dX1_cellStopsBy_10 (fun hf => ?_) (fun hf => ?_)
    · refine j_iconst (pc := 34) 0 C (by decide) dX1_cellStopsBy_34 ?_
      obtain rfl := si1 hf
      exact j_zret (pc := 35) C (by decide) dX1_cellStopsBy_35
    · refine j_aload_n (pc := 13) C 0 rfl dX1_cellStopsBy_13 ?_
      refine j_get (pc := 14) 0 1 9 C iw_X1_cellStopsBy_X1 rfl rfl (by decide) fl_X1_cellStopsBy_22 rfl rfl dX1_cellStopsBy_14 ?_
      refine j_iload_n (pc := 17) C 1 rfl dX1_cellStopsBy_17 ?_
      refine j_iald (pc := 18) 3 C rfl hf dX1_cellStopsBy_18 (fun hf => ?_)
      refine j_iload_n (pc := 19) C 2 rfl dX1_cellStopsBy_19 ?_
      refine j_iadd (pc := 20) C dX1_cellStopsBy_20 ?_
      refine j_aload_n (pc := 21) C 0 rfl dX1_cellStopsBy_21 ?_
      refine j_get (pc := 22) 0 1 8 C iw_X1_cellStopsBy_X1 rfl rfl (by decide) fl_X1_cellStopsBy_19 rfl rfl dX1_cellStopsBy_22 ?_
      refine j_iload_n (pc := 25) C 1 rfl dX1_cellStopsBy_25 ?_
      refine j_iald (pc := 26) 2 C rfl hf dX1_cellStopsBy_26 (fun hf => ?_)
      refine j_icmp_le (pc := 27) 34 C hf (by decide) dX1_cellStopsBy_27 (fun hf => ?_) (fun hf => ?_)
      · refine j_iconst (pc := 34) 0 C (by decide) dX1_cellStopsBy_34 ?_
        obtain rfl := si1 hf
        exact j_zret (pc := 35) C (by decide) dX1_cellStopsBy_35
      · refine j_iconst (pc := 30) 1 C (by decide) dX1_cellStopsBy_30 ?_
        refine j_goto (pc := 31) 35 C (by decide) dX1_cellStopsBy_31 ?_
        obtain rfl := si1 hf
        exact j_zret (pc := 35) C (by decide) dX1_cellStopsBy_35
theorem k_X1_cellStopsBy : CK yX1_cellStopsBy wsX1_cellStopsBy cX1_cellStopsBy 3 (some .boolean) 2 := ⟨rfl, by decide +kernel⟩
theorem c_X1_cellStopsBy (D : va_G) (r0 rKindA rRoomA rChargeA rLeakA rPlanA : Nat) (v1 : Int32) (v2 : Int32) (rCells : Int32) (rSigns : Int32) (rHour : Int32) (rStops : Int32) (rWaste : Int32) (rDone : Int32) (rBridged : Int32) (rKind : Nat → Int32) (rRoom : Nat → Int32) (rCharge : Nat → Int32) (rLeak : Nat → Int32) (rPlan : Nat → Int32) (oR : Int32) (hf : f_X1_cellStopsBy v1 v2 rKind rRoom rCharge = some oR) : ∀ l, MW l yX1_cellStopsBy wsX1_cellStopsBy ({ frames := 0, cells := 0, slots := 0, locals := 0 } : Room) D [.ref r0, .int v1, .int v2] [(r0, .inr (1, [.int rCells, .int rSigns, .int rHour, .int rStops, .int rWaste, .int rDone, .int rBridged, .ref rKindA, .ref rRoomA, .ref rChargeA, .ref rLeakA, .ref rPlanA])), (rKindA, .inl (D.1 7, 5, .inl rKind)), (rRoomA, .inl (D.1 7, 5, .inl rRoom)), (rChargeA, .inl (D.1 7, 5, .inl rCharge)), (rLeakA, .inl (D.1 7, 5, .inl rLeak)), (rPlanA, .inl (D.1 7, 16, .inl rPlan))] (some (.int oR)) [(r0, .inr (1, [.int rCells, .int rSigns, .int rHour, .int rStops, .int rWaste, .int rDone, .int rBridged, .ref rKindA, .ref rRoomA, .ref rChargeA, .ref rLeakA, .ref rPlanA])), (rKindA, .inl (D.1 7, 5, .inl rKind)), (rRoomA, .inl (D.1 7, 5, .inl rRoom)), (rChargeA, .inl (D.1 7, 5, .inl rCharge)), (rLeakA, .inl (D.1 7, 5, .inl rLeak)), (rPlanA, .inl (D.1 7, 16, .inl rPlan))] := j_met (cc := cX1_cellStopsBy) (nl := 3) (rt := (some .boolean)) (own := RX1) (lv := [(0, .ref r0), (1, .int v1), (2, .int v2)]) (by decide +kernel) rfl rfl rfl (Nat.le_of_ble_eq_true rfl) (fun G C => t_X1_cellStopsBy_0 C hf)

-- X1_stopsBy
theorem fl_X1_stopsBy_31 : Cond.fieldLink RX1 31 "CellsInRow$Row" "cells" "I" ∈ wsX1_stopsBy := by decide +kernel
theorem iw_X1_stopsBy_X1 : ∀ w ∈ wsX10, w ∈ wsX1_stopsBy := by decide +kernel
theorem fl_X1_stopsBy_9 : Cond.fieldLink RX1 9 "CellsInRow$Row" "bridged" "I" ∈ wsX1_stopsBy := by decide +kernel
set_option maxHeartbeats 4000000 in
set_option maxRecDepth 100000 in
theorem t_X1_stopsBy_2 {G : jX} {D : va_G} {r0 rKindA rRoomA rChargeA rLeakA rPlanA : Nat} {v1 : Int32} {rCells : Int32} {rSigns : Int32} {rHour : Int32} {rStops : Int32} {rWaste : Int32} {rDone : Int32} {rBridged : Int32} {rKind : Nat → Int32} {rRoom : Nat → Int32} {rCharge : Nat → Int32} {rLeak : Nat → Int32} {rPlan : Nat → Int32} {oR : Int32} (C : KC G D cX1_stopsBy RX1 wsX1_stopsBy ({ frames := 1, cells := 0, slots := 0, locals := 22 } : Room) 3 (some .boolean) (some (.int oR)) [(r0, .inr (1, [.int rCells, .int rSigns, .int rHour, .int rStops, .int rWaste, .int rDone, .int rBridged, .ref rKindA, .ref rRoomA, .ref rChargeA, .ref rLeakA, .ref rPlanA])), (rKindA, .inl (D.1 7, 5, .inl rKind)), (rRoomA, .inl (D.1 7, 5, .inl rRoom)), (rChargeA, .inl (D.1 7, 5, .inl rCharge)), (rLeakA, .inl (D.1 7, 5, .inl rLeak)), (rPlanA, .inl (D.1 7, 16, .inl rPlan))]) : ∀ (n : Nat) (v2 : Int32), f_X1_stopsBy_2 v1 rCells rBridged rKind rRoom rCharge n v2 = some oR → JW G D 2 [(0, .ref r0), (1, .int v1), (2, .int v2)] [] [(r0, .inr (1, [.int rCells, .int rSigns, .int rHour, .int rStops, .int rWaste, .int rDone, .int rBridged, .ref rKindA, .ref rRoomA, .ref rChargeA, .ref rLeakA, .ref rPlanA])), (rKindA, .inl (D.1 7, 5, .inl rKind)), (rRoomA, .inl (D.1 7, 5, .inl rRoom)), (rChargeA, .inl (D.1 7, 5, .inl rCharge)), (rLeakA, .inl (D.1 7, 5, .inl rLeak)), (rPlanA, .inl (D.1 7, 16, .inl rPlan))] := by
  intro n
  induction n with
  | zero => intro _ hf; rw [f_X1_stopsBy_2] at hf; cases hf
  | succ n ih =>
    intro v2 hf
    rw [f_X1_stopsBy_2] at hf
    refine j_iload_n (pc := 2) C 2 rfl dX1_stopsBy_2 ?_
    refine j_aload_n (pc := 3) C 0 rfl dX1_stopsBy_3 ?_
    refine j_get (pc := 4) 0 1 0 C iw_X1_stopsBy_X1 rfl rfl (by decide) fl_X1_stopsBy_31 rfl rfl dX1_stopsBy_4 ?_
    refine j_icmp_ge (pc := 7) 35 C hf (by decide) dX1_stopsBy_7 (fun hf => ?_) (fun hf => ?_)
    · refine j_iconst (pc := 35) 0 C (by decide) dX1_stopsBy_35 ?_
      obtain rfl := si1 hf
      exact j_zret (pc := 36) C (by decide) dX1_stopsBy_36
    · refine j_iload_n (pc := 10) C 2 rfl dX1_stopsBy_10 ?_
      refine j_aload_n (pc := 11) C 0 rfl dX1_stopsBy_11 ?_
      refine j_get (pc := 12) 0 1 6 C iw_X1_stopsBy_X1 rfl rfl (by decide) fl_X1_stopsBy_9 rfl rfl dX1_stopsBy_12 ?_
      refine j_icmp_eq (pc := 15) 29 C hf (by decide) dX1_stopsBy_15 (fun hf => ?_) (fun hf => ?_)
      · refine j_iinc (pc := 29) (v2 + 1) 2 2 [(0, .ref r0), (1, .int v1), (2, .int (v2 + 1))] [1, 2, 0] C rfl (by rfl) (by decide) rfl dX1_stopsBy_29 ?_
        refine j_goto (pc := 32) 2 C (by decide) dX1_stopsBy_32 ?_
        exact ih _ hf
      · refine j_aload_n (pc := 18) C 0 rfl dX1_stopsBy_18 ?_
        refine j_iload_n (pc := 19) C 2 rfl dX1_stopsBy_19 ?_
        refine j_iload_n (pc := 20) C 1 rfl dX1_stopsBy_20 ?_
        obtain ⟨a_1, hu, hf⟩ := ob1_some hf
        refine j_callV (pc := 21) (N := 6) (qr := 0) (ci := 1) [.int v2, .int v1] [] [.int v1, .int v2, .ref r0] [.int a_1] [(r0, .inr (1, [.int rCells, .int rSigns, .int rHour, .int rStops, .int rWaste, .int rDone, .int rBridged, .ref rKindA, .ref rRoomA, .ref rChargeA, .ref rLeakA, .ref rPlanA])), (rKindA, .inl (D.1 7, 5, .inl rKind)), (rRoomA, .inl (D.1 7, 5, .inl rRoom)), (rChargeA, .inl (D.1 7, 5, .inl rCharge)), (rLeakA, .inl (D.1 7, 5, .inl rLeak)), (rPlanA, .inl (D.1 7, 16, .inl rPlan))] [] [r0, rKindA, rRoomA, rChargeA, rLeakA, rPlanA] [0, 1, 2, 3, 4, 5] [] C (c_X1_cellStopsBy D r0 rKindA rRoomA rChargeA rLeakA rPlanA v2 v1 rCells rSigns rHour rStops rWaste rDone rBridged rKind rRoom rCharge rLeak rPlan a_1 hu) k_X1_cellStopsBy gX1_stopsBy_X1_cellStopsBy ⟨rfl, rfl⟩ ⟨Nat.le_of_ble_eq_true rfl, Nat.le_of_ble_eq_true rfl⟩ rfl rfl rfl rfl rfl rfl (Nat.le_of_ble_eq_true rfl) rfl rfl rfl rfl (by decide) (by decide) (by decide) rfl rfl rfl dX1_stopsBy_21 ?_
        refine j_if_eq (pc := 24) 29 C hf (by decide) dX1_stopsBy_24 (fun hf => ?_) (fun hf => ?_)
        · refine j_iinc (pc := 29) (v2 + 1) 2 2 [(0, .ref r0), (1, .int v1), (2, .int (v2 + 1))] [1, 2, 0] C rfl (by rfl) (by decide) rfl dX1_stopsBy_29 ?_
          refine j_goto (pc := 32) 2 C (by decide) dX1_stopsBy_32 ?_
          exact ih _ hf
        · refine j_iconst (pc := 27) 1 C (by decide) dX1_stopsBy_27 ?_
          obtain rfl := si1 hf
          exact j_zret (pc := 28) C (by decide) dX1_stopsBy_28
set_option maxHeartbeats 4000000 in
set_option maxRecDepth 100000 in
theorem t_X1_stopsBy_0 {G : jX} {D : va_G} {r0 rKindA rRoomA rChargeA rLeakA rPlanA : Nat} {v1 : Int32} {rCells : Int32} {rSigns : Int32} {rHour : Int32} {rStops : Int32} {rWaste : Int32} {rDone : Int32} {rBridged : Int32} {rKind : Nat → Int32} {rRoom : Nat → Int32} {rCharge : Nat → Int32} {rLeak : Nat → Int32} {rPlan : Nat → Int32} {oR : Int32} (C : KC G D cX1_stopsBy RX1 wsX1_stopsBy ({ frames := 1, cells := 0, slots := 0, locals := 22 } : Room) 3 (some .boolean) (some (.int oR)) [(r0, .inr (1, [.int rCells, .int rSigns, .int rHour, .int rStops, .int rWaste, .int rDone, .int rBridged, .ref rKindA, .ref rRoomA, .ref rChargeA, .ref rLeakA, .ref rPlanA])), (rKindA, .inl (D.1 7, 5, .inl rKind)), (rRoomA, .inl (D.1 7, 5, .inl rRoom)), (rChargeA, .inl (D.1 7, 5, .inl rCharge)), (rLeakA, .inl (D.1 7, 5, .inl rLeak)), (rPlanA, .inl (D.1 7, 16, .inl rPlan))]) (hf : f_X1_stopsBy v1 rCells rBridged rKind rRoom rCharge = some oR) : JW G D 0 [(0, .ref r0), (1, .int v1)] [] [(r0, .inr (1, [.int rCells, .int rSigns, .int rHour, .int rStops, .int rWaste, .int rDone, .int rBridged, .ref rKindA, .ref rRoomA, .ref rChargeA, .ref rLeakA, .ref rPlanA])), (rKindA, .inl (D.1 7, 5, .inl rKind)), (rRoomA, .inl (D.1 7, 5, .inl rRoom)), (rChargeA, .inl (D.1 7, 5, .inl rCharge)), (rLeakA, .inl (D.1 7, 5, .inl rLeak)), (rPlanA, .inl (D.1 7, 16, .inl rPlan))] := by
  unfold f_X1_stopsBy at hf
  refine j_iconst (pc := 0) 0 C (by decide) dX1_stopsBy_0 ?_
  refine j_istore_n (pc := 1) 2 [(0, .ref r0), (1, .int v1), (2, .int 0)] [1, 2, 0] C rfl (by decide) rfl dX1_stopsBy_1 ?_
  exact t_X1_stopsBy_2 C 1000 _ hf
theorem k_X1_stopsBy : CK yX1_stopsBy wsX1_stopsBy cX1_stopsBy 3 (some .boolean) 1 := ⟨rfl, by decide +kernel⟩
theorem c_X1_stopsBy (D : va_G) (r0 rKindA rRoomA rChargeA rLeakA rPlanA : Nat) (v1 : Int32) (rCells : Int32) (rSigns : Int32) (rHour : Int32) (rStops : Int32) (rWaste : Int32) (rDone : Int32) (rBridged : Int32) (rKind : Nat → Int32) (rRoom : Nat → Int32) (rCharge : Nat → Int32) (rLeak : Nat → Int32) (rPlan : Nat → Int32) (oR : Int32) (hf : f_X1_stopsBy v1 rCells rBridged rKind rRoom rCharge = some oR) : ∀ l, MW l yX1_stopsBy wsX1_stopsBy ({ frames := 1, cells := 0, slots := 0, locals := 22 } : Room) D [.ref r0, .int v1] [(r0, .inr (1, [.int rCells, .int rSigns, .int rHour, .int rStops, .int rWaste, .int rDone, .int rBridged, .ref rKindA, .ref rRoomA, .ref rChargeA, .ref rLeakA, .ref rPlanA])), (rKindA, .inl (D.1 7, 5, .inl rKind)), (rRoomA, .inl (D.1 7, 5, .inl rRoom)), (rChargeA, .inl (D.1 7, 5, .inl rCharge)), (rLeakA, .inl (D.1 7, 5, .inl rLeak)), (rPlanA, .inl (D.1 7, 16, .inl rPlan))] (some (.int oR)) [(r0, .inr (1, [.int rCells, .int rSigns, .int rHour, .int rStops, .int rWaste, .int rDone, .int rBridged, .ref rKindA, .ref rRoomA, .ref rChargeA, .ref rLeakA, .ref rPlanA])), (rKindA, .inl (D.1 7, 5, .inl rKind)), (rRoomA, .inl (D.1 7, 5, .inl rRoom)), (rChargeA, .inl (D.1 7, 5, .inl rCharge)), (rLeakA, .inl (D.1 7, 5, .inl rLeak)), (rPlanA, .inl (D.1 7, 16, .inl rPlan))] := j_met (cc := cX1_stopsBy) (nl := 3) (rt := (some .boolean)) (own := RX1) (lv := [(0, .ref r0), (1, .int v1)]) (by decide +kernel) rfl rfl rfl (Nat.le_of_ble_eq_true rfl) (fun G C => t_X1_stopsBy_0 C hf)

-- X1_put
theorem fl_X1_put_19 : Cond.fieldLink RX1 19 "CellsInRow$Row" "room" "[I" ∈ wsX1_put := by decide +kernel
theorem iw_X1_put_X1 : ∀ w ∈ wsX10, w ∈ wsX1_put := by decide +kernel
theorem fl_X1_put_22 : Cond.fieldLink RX1 22 "CellsInRow$Row" "charge" "[I" ∈ wsX1_put := by decide +kernel
set_option maxHeartbeats 4000000 in
set_option maxRecDepth 100000 in
theorem t_X1_put_24 {G : jX} {D : va_G} {r0 rKindA rRoomA rChargeA rLeakA rPlanA : Nat} {v1 : Int32} {u0 : Int32} {rCells : Int32} {rSigns : Int32} {rHour : Int32} {rStops : Int32} {rWaste : Int32} {rDone : Int32} {rBridged : Int32} {rKind : Nat → Int32} {rRoom : Nat → Int32} {rCharge : Nat → Int32} {rLeak : Nat → Int32} {rPlan : Nat → Int32} {oR : Int32} {oRCharge : Nat → Int32} (C : KC G D cX1_put RX1 wsX1_put ({ frames := 0, cells := 0, slots := 0, locals := 0 } : Room) 5 (some .int) (some (.int oR)) [(r0, .inr (1, [.int rCells, .int rSigns, .int rHour, .int rStops, .int rWaste, .int rDone, .int rBridged, .ref rKindA, .ref rRoomA, .ref rChargeA, .ref rLeakA, .ref rPlanA])), (rKindA, .inl (D.1 7, 5, .inl rKind)), (rRoomA, .inl (D.1 7, 5, .inl rRoom)), (rChargeA, .inl (D.1 7, 5, .inl oRCharge)), (rLeakA, .inl (D.1 7, 5, .inl rLeak)), (rPlanA, .inl (D.1 7, 16, .inl rPlan))]) (hf : f_X1_put_24 v1 u0 rRoom rCharge = some (oR, oRCharge)) : JW G D 24 [(0, .ref r0), (1, .int v1)] [.int u0] [(r0, .inr (1, [.int rCells, .int rSigns, .int rHour, .int rStops, .int rWaste, .int rDone, .int rBridged, .ref rKindA, .ref rRoomA, .ref rChargeA, .ref rLeakA, .ref rPlanA])), (rKindA, .inl (D.1 7, 5, .inl rKind)), (rRoomA, .inl (D.1 7, 5, .inl rRoom)), (rChargeA, .inl (D.1 7, 5, .inl rCharge)), (rLeakA, .inl (D.1 7, 5, .inl rLeak)), (rPlanA, .inl (D.1 7, 16, .inl rPlan))] := by
  unfold f_X1_put_24 at hf
  refine j_istore (pc := 24) 4 [(0, .ref r0), (1, .int v1), (4, .int u0)] [1, 2, 0] C (by decide) rfl dX1_put_24 ?_
  refine j_aload_n (pc := 26) C 0 rfl dX1_put_26 ?_
  refine j_get (pc := 27) 0 1 9 C iw_X1_put_X1 rfl rfl (by decide) fl_X1_put_22 rfl rfl dX1_put_27 ?_
  refine j_iload_n (pc := 30) C 1 rfl dX1_put_30 ?_
  refine j_dup2 (pc := 31) C rfl rfl dX1_put_31 ?_
  refine j_iald (pc := 32) 3 C rfl hf dX1_put_32 (fun hf => ?_)
  refine j_iload (pc := 33) C 2 rfl dX1_put_33 ?_
  refine j_iadd (pc := 35) C dX1_put_35 ?_
  refine j_iast (pc := 36) 3 [(r0, .inr (1, [.int rCells, .int rSigns, .int rHour, .int rStops, .int rWaste, .int rDone, .int rBridged, .ref rKindA, .ref rRoomA, .ref rChargeA, .ref rLeakA, .ref rPlanA])), (rKindA, .inl (D.1 7, 5, .inl rKind)), (rRoomA, .inl (D.1 7, 5, .inl rRoom)), (rChargeA, .inl (D.1 7, 5, .inl (upd rCharge v1.toNatClampNeg ((rCharge v1.toNatClampNeg) + u0)))), (rLeakA, .inl (D.1 7, 5, .inl rLeak)), (rPlanA, .inl (D.1 7, 16, .inl rPlan))] C rfl rfl hf dX1_put_36 (fun hf => ?_)
  refine j_iload (pc := 37) C 2 rfl dX1_put_37 ?_
  obtain ⟨rfl, rfl⟩ := si2 hf
  exact j_iret (pc := 39) C dX1_put_39
set_option maxHeartbeats 4000000 in
set_option maxRecDepth 100000 in
theorem t_X1_put_0 {G : jX} {D : va_G} {r0 rKindA rRoomA rChargeA rLeakA rPlanA : Nat} {v1 : Int32} {v2 : Int32} {rCells : Int32} {rSigns : Int32} {rHour : Int32} {rStops : Int32} {rWaste : Int32} {rDone : Int32} {rBridged : Int32} {rKind : Nat → Int32} {rRoom : Nat → Int32} {rCharge : Nat → Int32} {rLeak : Nat → Int32} {rPlan : Nat → Int32} {oR : Int32} {oRCharge : Nat → Int32} (C : KC G D cX1_put RX1 wsX1_put ({ frames := 0, cells := 0, slots := 0, locals := 0 } : Room) 5 (some .int) (some (.int oR)) [(r0, .inr (1, [.int rCells, .int rSigns, .int rHour, .int rStops, .int rWaste, .int rDone, .int rBridged, .ref rKindA, .ref rRoomA, .ref rChargeA, .ref rLeakA, .ref rPlanA])), (rKindA, .inl (D.1 7, 5, .inl rKind)), (rRoomA, .inl (D.1 7, 5, .inl rRoom)), (rChargeA, .inl (D.1 7, 5, .inl oRCharge)), (rLeakA, .inl (D.1 7, 5, .inl rLeak)), (rPlanA, .inl (D.1 7, 16, .inl rPlan))]) (hf : f_X1_put v1 v2 rRoom rCharge = some (oR, oRCharge)) : JW G D 0 [(0, .ref r0), (1, .int v1), (2, .int v2)] [] [(r0, .inr (1, [.int rCells, .int rSigns, .int rHour, .int rStops, .int rWaste, .int rDone, .int rBridged, .ref rKindA, .ref rRoomA, .ref rChargeA, .ref rLeakA, .ref rPlanA])), (rKindA, .inl (D.1 7, 5, .inl rKind)), (rRoomA, .inl (D.1 7, 5, .inl rRoom)), (rChargeA, .inl (D.1 7, 5, .inl rCharge)), (rLeakA, .inl (D.1 7, 5, .inl rLeak)), (rPlanA, .inl (D.1 7, 16, .inl rPlan))] := by
  unfold f_X1_put at hf
  refine j_aload_n (pc := 0) C 0 rfl dX1_put_0 ?_
  refine j_get (pc := 1) 0 1 8 C iw_X1_put_X1 rfl rfl (by decide) fl_X1_put_19 rfl rfl dX1_put_1 ?_
  refine j_iload_n (pc := 4) C 1 rfl dX1_put_4 ?_
  refine j_iald (pc := 5) 2 C rfl hf dX1_put_5 (fun hf => ?_)
  refine j_aload_n (pc := 6) C 0 rfl dX1_put_6 ?_
  refine j_get (pc := 7) 0 1 9 C iw_X1_put_X1 rfl rfl (by decide) fl_X1_put_22 rfl rfl dX1_put_7 ?_
  refine j_iload_n (pc := 10) C 1 rfl dX1_put_10 ?_
  refine j_iald (pc := 11) 3 C rfl hf dX1_put_11 (fun hf => ?_)
  refine j_isub (pc := 12) C dX1_put_12 ?_
  refine j_bdi hf (fun y_1 hf => ?_)
  refine j_istore_n (pc := 13) 3 [(0, .ref r0), (1, .int v1), (2, .int v2), (3, .int y_1)] [1, 2, 3, 0] C rfl (by decide) rfl dX1_put_13 ?_
  refine j_iload_n (pc := 14) C 2 rfl dX1_put_14 ?_
  refine j_iload_n (pc := 15) C 3 rfl dX1_put_15 ?_
  refine j_icmp_ge (pc := 16) 23 C hf (by decide) dX1_put_16 (fun hf => ?_) (fun hf => ?_)
  · refine j_iload_n (pc := 23) C 3 rfl dX1_put_23 ?_
    refine j_lv [(0, .ref r0), (1, .int v1)] [0, 1] rfl ?_
    exact t_X1_put_24 C hf
  · refine j_iload_n (pc := 19) C 2 rfl dX1_put_19 ?_
    refine j_goto (pc := 20) 24 C (by decide) dX1_put_20 ?_
    refine j_lv [(0, .ref r0), (1, .int v1)] [0, 1] rfl ?_
    exact t_X1_put_24 C hf
theorem k_X1_put : CK yX1_put wsX1_put cX1_put 5 (some .int) 2 := ⟨rfl, by decide +kernel⟩
theorem c_X1_put (D : va_G) (r0 rKindA rRoomA rChargeA rLeakA rPlanA : Nat) (v1 : Int32) (v2 : Int32) (rCells : Int32) (rSigns : Int32) (rHour : Int32) (rStops : Int32) (rWaste : Int32) (rDone : Int32) (rBridged : Int32) (rKind : Nat → Int32) (rRoom : Nat → Int32) (rCharge : Nat → Int32) (rLeak : Nat → Int32) (rPlan : Nat → Int32) (oR : Int32) (oRCharge : Nat → Int32) (hf : f_X1_put v1 v2 rRoom rCharge = some (oR, oRCharge)) : ∀ l, MW l yX1_put wsX1_put ({ frames := 0, cells := 0, slots := 0, locals := 0 } : Room) D [.ref r0, .int v1, .int v2] [(r0, .inr (1, [.int rCells, .int rSigns, .int rHour, .int rStops, .int rWaste, .int rDone, .int rBridged, .ref rKindA, .ref rRoomA, .ref rChargeA, .ref rLeakA, .ref rPlanA])), (rKindA, .inl (D.1 7, 5, .inl rKind)), (rRoomA, .inl (D.1 7, 5, .inl rRoom)), (rChargeA, .inl (D.1 7, 5, .inl rCharge)), (rLeakA, .inl (D.1 7, 5, .inl rLeak)), (rPlanA, .inl (D.1 7, 16, .inl rPlan))] (some (.int oR)) [(r0, .inr (1, [.int rCells, .int rSigns, .int rHour, .int rStops, .int rWaste, .int rDone, .int rBridged, .ref rKindA, .ref rRoomA, .ref rChargeA, .ref rLeakA, .ref rPlanA])), (rKindA, .inl (D.1 7, 5, .inl rKind)), (rRoomA, .inl (D.1 7, 5, .inl rRoom)), (rChargeA, .inl (D.1 7, 5, .inl oRCharge)), (rLeakA, .inl (D.1 7, 5, .inl rLeak)), (rPlanA, .inl (D.1 7, 16, .inl rPlan))] := j_met (cc := cX1_put) (nl := 5) (rt := (some .int)) (own := RX1) (lv := [(0, .ref r0), (1, .int v1), (2, .int v2)]) (by decide +kernel) rfl rfl rfl (Nat.le_of_ble_eq_true rfl) (fun G C => t_X1_put_0 C hf)

-- X1_poorest
theorem fl_X1_poorest_31 : Cond.fieldLink RX1 31 "CellsInRow$Row" "cells" "I" ∈ wsX1_poorest := by decide +kernel
theorem iw_X1_poorest_X1 : ∀ w ∈ wsX10, w ∈ wsX1_poorest := by decide +kernel
theorem fl_X1_poorest_9 : Cond.fieldLink RX1 9 "CellsInRow$Row" "bridged" "I" ∈ wsX1_poorest := by decide +kernel
theorem fl_X1_poorest_22 : Cond.fieldLink RX1 22 "CellsInRow$Row" "charge" "[I" ∈ wsX1_poorest := by decide +kernel
set_option maxHeartbeats 4000000 in
set_option maxRecDepth 100000 in
theorem t_X1_poorest_9 {G : jX} {D : va_G} {r0 rKindA rRoomA rChargeA rLeakA rPlanA : Nat} {rCells : Int32} {rSigns : Int32} {rHour : Int32} {rStops : Int32} {rWaste : Int32} {rDone : Int32} {rBridged : Int32} {rKind : Nat → Int32} {rRoom : Nat → Int32} {rCharge : Nat → Int32} {rLeak : Nat → Int32} {rPlan : Nat → Int32} {oR : Int32} (C : KC G D cX1_poorest RX1 wsX1_poorest ({ frames := 0, cells := 0, slots := 0, locals := 0 } : Room) 4 (some .int) (some (.int oR)) [(r0, .inr (1, [.int rCells, .int rSigns, .int rHour, .int rStops, .int rWaste, .int rDone, .int rBridged, .ref rKindA, .ref rRoomA, .ref rChargeA, .ref rLeakA, .ref rPlanA])), (rKindA, .inl (D.1 7, 5, .inl rKind)), (rRoomA, .inl (D.1 7, 5, .inl rRoom)), (rChargeA, .inl (D.1 7, 5, .inl rCharge)), (rLeakA, .inl (D.1 7, 5, .inl rLeak)), (rPlanA, .inl (D.1 7, 16, .inl rPlan))]) : ∀ (n : Nat) (v2 : Int32) (v3 : Int32), f_X1_poorest_9 rCells rBridged rCharge n v2 v3 = some oR → JW G D 9 [(0, .ref r0), (2, .int v2), (3, .int v3)] [] [(r0, .inr (1, [.int rCells, .int rSigns, .int rHour, .int rStops, .int rWaste, .int rDone, .int rBridged, .ref rKindA, .ref rRoomA, .ref rChargeA, .ref rLeakA, .ref rPlanA])), (rKindA, .inl (D.1 7, 5, .inl rKind)), (rRoomA, .inl (D.1 7, 5, .inl rRoom)), (rChargeA, .inl (D.1 7, 5, .inl rCharge)), (rLeakA, .inl (D.1 7, 5, .inl rLeak)), (rPlanA, .inl (D.1 7, 16, .inl rPlan))] := by
  intro n
  induction n with
  | zero => intro _ _ hf; rw [f_X1_poorest_9] at hf; cases hf
  | succ n ih =>
    intro v2 v3 hf
    rw [f_X1_poorest_9] at hf
    refine j_iload_n (pc := 9) C 2 rfl dX1_poorest_9 ?_
    refine j_if_lt (pc := 10) 44 C hf (by decide) dX1_poorest_10 (fun hf => ?_) (fun hf => ?_)
    · refine j_iload_n (pc := 44) C 1 rfl dX1_poorest_44 ?_
      obtain rfl := si1 hf
      exact j_iret (pc := 45) C dX1_poorest_45
    · refine j_iload_n (pc := 13) C 2 rfl dX1_poorest_13 ?_
      refine j_aload_n (pc := 14) C 0 rfl dX1_poorest_14 ?_
      refine j_get (pc := 15) 0 1 6 C iw_X1_poorest_X1 rfl rfl (by decide) fl_X1_poorest_9 rfl rfl dX1_poorest_15 ?_
      refine j_icmp_eq (pc := 18) 38 C hf (by decide) dX1_poorest_18 (fun hf => ?_) (fun hf => ?_)
      · refine j_iinc (pc := 38) (v3 + (-1)) 3 2 [(0, .ref r0), (2, .int v2), (3, .int (v3 + (-1)))] [1, 2, 0] C rfl (by rfl) (by decide) rfl dX1_poorest_38 ?_
        refine j_goto (pc := 41) 9 C (by decide) dX1_poorest_41 ?_
        exact ih _ _ hf
      · refine j_aload_n (pc := 21) C 0 rfl dX1_poorest_21 ?_
        refine j_get (pc := 22) 0 1 9 C iw_X1_poorest_X1 rfl rfl (by decide) fl_X1_poorest_22 rfl rfl dX1_poorest_22 ?_
        refine j_iload_n (pc := 25) C 2 rfl dX1_poorest_25 ?_
        refine j_iald (pc := 26) 3 C rfl hf dX1_poorest_26 (fun hf => ?_)
        refine j_aload_n (pc := 27) C 0 rfl dX1_poorest_27 ?_
        refine j_get (pc := 28) 0 1 9 C iw_X1_poorest_X1 rfl rfl (by decide) fl_X1_poorest_22 rfl rfl dX1_poorest_28 ?_
        refine j_iload_n (pc := 31) C 1 rfl dX1_poorest_31 ?_
        refine j_iald (pc := 32) 3 C rfl hf dX1_poorest_32 (fun hf => ?_)
        refine j_icmp_gt (pc := 33) 38 C hf (by decide) dX1_poorest_33 (fun hf => ?_) (fun hf => ?_)
        · refine j_iinc (pc := 38) (v3 + (-1)) 3 2 [(0, .ref r0), (2, .int v2), (3, .int (v3 + (-1)))] [1, 2, 0] C rfl (by rfl) (by decide) rfl dX1_poorest_38 ?_
          refine j_goto (pc := 41) 9 C (by decide) dX1_poorest_41 ?_
          exact ih _ _ hf
        · refine j_iload_n (pc := 36) C 2 rfl dX1_poorest_36 ?_
          refine j_istore_n (pc := 37) 2 [(0, .ref r0), (2, .int v3), (3, .int v3)] [1, 0, 2] C rfl (by decide) rfl dX1_poorest_37 ?_
          refine j_iinc (pc := 38) (v3 + (-1)) 3 2 [(0, .ref r0), (2, .int v3), (3, .int (v3 + (-1)))] [1, 2, 0] C rfl (by rfl) (by decide) rfl dX1_poorest_38 ?_
          refine j_goto (pc := 41) 9 C (by decide) dX1_poorest_41 ?_
          exact ih _ _ hf
set_option maxHeartbeats 4000000 in
set_option maxRecDepth 100000 in
theorem t_X1_poorest_0 {G : jX} {D : va_G} {r0 rKindA rRoomA rChargeA rLeakA rPlanA : Nat} {v1 : Int32} {rCells : Int32} {rSigns : Int32} {rHour : Int32} {rStops : Int32} {rWaste : Int32} {rDone : Int32} {rBridged : Int32} {rKind : Nat → Int32} {rRoom : Nat → Int32} {rCharge : Nat → Int32} {rLeak : Nat → Int32} {rPlan : Nat → Int32} {oR : Int32} (C : KC G D cX1_poorest RX1 wsX1_poorest ({ frames := 0, cells := 0, slots := 0, locals := 0 } : Room) 4 (some .int) (some (.int oR)) [(r0, .inr (1, [.int rCells, .int rSigns, .int rHour, .int rStops, .int rWaste, .int rDone, .int rBridged, .ref rKindA, .ref rRoomA, .ref rChargeA, .ref rLeakA, .ref rPlanA])), (rKindA, .inl (D.1 7, 5, .inl rKind)), (rRoomA, .inl (D.1 7, 5, .inl rRoom)), (rChargeA, .inl (D.1 7, 5, .inl rCharge)), (rLeakA, .inl (D.1 7, 5, .inl rLeak)), (rPlanA, .inl (D.1 7, 16, .inl rPlan))]) (hf : f_X1_poorest v1 rCells rBridged rCharge = some oR) : JW G D 0 [(0, .ref r0), (1, .int v1)] [] [(r0, .inr (1, [.int rCells, .int rSigns, .int rHour, .int rStops, .int rWaste, .int rDone, .int rBridged, .ref rKindA, .ref rRoomA, .ref rChargeA, .ref rLeakA, .ref rPlanA])), (rKindA, .inl (D.1 7, 5, .inl rKind)), (rRoomA, .inl (D.1 7, 5, .inl rRoom)), (rChargeA, .inl (D.1 7, 5, .inl rCharge)), (rLeakA, .inl (D.1 7, 5, .inl rLeak)), (rPlanA, .inl (D.1 7, 16, .inl rPlan))] := by
  unfold f_X1_poorest at hf
  refine j_iload_n (pc := 0) C 1 rfl dX1_poorest_0 ?_
  refine j_istore_n (pc := 1) 2 [(0, .ref r0), (1, .int v1), (2, .int v1)] [1, 2, 0] C rfl (by decide) rfl dX1_poorest_1 ?_
  refine j_aload_n (pc := 2) C 0 rfl dX1_poorest_2 ?_
  refine j_get (pc := 3) 0 1 0 C iw_X1_poorest_X1 rfl rfl (by decide) fl_X1_poorest_31 rfl rfl dX1_poorest_3 ?_
  refine j_iconst (pc := 6) 1 C (by decide) dX1_poorest_6 ?_
  refine j_isub (pc := 7) C dX1_poorest_7 ?_
  refine j_bdi hf (fun y_1 hf => ?_)
  refine j_istore_n (pc := 8) 3 [(0, .ref r0), (1, .int v1), (2, .int v1), (3, .int y_1)] [1, 2, 3, 0] C rfl (by decide) rfl dX1_poorest_8 ?_
  refine j_lv [(0, .ref r0), (2, .int v1), (3, .int y_1)] [0, 2, 3] rfl ?_
  exact t_X1_poorest_9 C 1000 _ _ hf
theorem k_X1_poorest : CK yX1_poorest wsX1_poorest cX1_poorest 4 (some .int) 1 := ⟨rfl, by decide +kernel⟩
theorem c_X1_poorest (D : va_G) (r0 rKindA rRoomA rChargeA rLeakA rPlanA : Nat) (v1 : Int32) (rCells : Int32) (rSigns : Int32) (rHour : Int32) (rStops : Int32) (rWaste : Int32) (rDone : Int32) (rBridged : Int32) (rKind : Nat → Int32) (rRoom : Nat → Int32) (rCharge : Nat → Int32) (rLeak : Nat → Int32) (rPlan : Nat → Int32) (oR : Int32) (hf : f_X1_poorest v1 rCells rBridged rCharge = some oR) : ∀ l, MW l yX1_poorest wsX1_poorest ({ frames := 0, cells := 0, slots := 0, locals := 0 } : Room) D [.ref r0, .int v1] [(r0, .inr (1, [.int rCells, .int rSigns, .int rHour, .int rStops, .int rWaste, .int rDone, .int rBridged, .ref rKindA, .ref rRoomA, .ref rChargeA, .ref rLeakA, .ref rPlanA])), (rKindA, .inl (D.1 7, 5, .inl rKind)), (rRoomA, .inl (D.1 7, 5, .inl rRoom)), (rChargeA, .inl (D.1 7, 5, .inl rCharge)), (rLeakA, .inl (D.1 7, 5, .inl rLeak)), (rPlanA, .inl (D.1 7, 16, .inl rPlan))] (some (.int oR)) [(r0, .inr (1, [.int rCells, .int rSigns, .int rHour, .int rStops, .int rWaste, .int rDone, .int rBridged, .ref rKindA, .ref rRoomA, .ref rChargeA, .ref rLeakA, .ref rPlanA])), (rKindA, .inl (D.1 7, 5, .inl rKind)), (rRoomA, .inl (D.1 7, 5, .inl rRoom)), (rChargeA, .inl (D.1 7, 5, .inl rCharge)), (rLeakA, .inl (D.1 7, 5, .inl rLeak)), (rPlanA, .inl (D.1 7, 16, .inl rPlan))] := j_met (cc := cX1_poorest) (nl := 4) (rt := (some .int)) (own := RX1) (lv := [(0, .ref r0), (1, .int v1)]) (by decide +kernel) rfl rfl rfl (Nat.le_of_ble_eq_true rfl) (fun G C => t_X1_poorest_0 C hf)

-- X1_takeInto
theorem fl_X1_takeInto_43 : Cond.fieldLink RX1 43 "CellsInRow$Row" "waste" "I" ∈ wsX1_takeInto := by decide +kernel
theorem iw_X1_takeInto_X1 : ∀ w ∈ wsX10, w ∈ wsX1_takeInto := by decide +kernel
theorem mm_X1_takeInto_min : Cond.methodLink RX1 63 Lib.Math.min.name ∈ wsX1_takeInto ∧ Cond.static Lib.Math.min.name ∈ wsX1_takeInto ∧ Cond.initialized "java/lang/Math" ∈ wsX1_takeInto ∧ Cond.code Lib.Math.min.name Lib.Math.min.code 2 (some .int) ∈ wsX1_takeInto := by decide +kernel
theorem fl_X1_takeInto_15 : Cond.fieldLink RX1 15 "CellsInRow$Row" "kind" "[I" ∈ wsX1_takeInto := by decide +kernel
set_option maxHeartbeats 4000000 in
set_option maxRecDepth 100000 in
theorem t_X1_takeInto_46 {G : jX} {D : va_G} {r0 rKindA rRoomA rChargeA rLeakA rPlanA : Nat} {v3 : Int32} {rCells : Int32} {rSigns : Int32} {rHour : Int32} {rStops : Int32} {rWaste : Int32} {rDone : Int32} {rBridged : Int32} {rKind : Nat → Int32} {rRoom : Nat → Int32} {rCharge : Nat → Int32} {rLeak : Nat → Int32} {rPlan : Nat → Int32} {oRWaste : Int32} {oRCharge : Nat → Int32} (C : KC G D cX1_takeInto RX1 wsX1_takeInto ({ frames := 1, cells := 0, slots := 0, locals := 24 } : Room) 4 none none [(r0, .inr (1, [.int rCells, .int rSigns, .int rHour, .int rStops, .int oRWaste, .int rDone, .int rBridged, .ref rKindA, .ref rRoomA, .ref rChargeA, .ref rLeakA, .ref rPlanA])), (rKindA, .inl (D.1 7, 5, .inl rKind)), (rRoomA, .inl (D.1 7, 5, .inl rRoom)), (rChargeA, .inl (D.1 7, 5, .inl oRCharge)), (rLeakA, .inl (D.1 7, 5, .inl rLeak)), (rPlanA, .inl (D.1 7, 16, .inl rPlan))]) (hf : f_X1_takeInto_46 v3 rCells rWaste rBridged rKind rRoom rCharge = some (oRWaste, oRCharge)) : JW G D 46 [(0, .ref r0), (3, .int v3)] [] [(r0, .inr (1, [.int rCells, .int rSigns, .int rHour, .int rStops, .int rWaste, .int rDone, .int rBridged, .ref rKindA, .ref rRoomA, .ref rChargeA, .ref rLeakA, .ref rPlanA])), (rKindA, .inl (D.1 7, 5, .inl rKind)), (rRoomA, .inl (D.1 7, 5, .inl rRoom)), (rChargeA, .inl (D.1 7, 5, .inl rCharge)), (rLeakA, .inl (D.1 7, 5, .inl rLeak)), (rPlanA, .inl (D.1 7, 16, .inl rPlan))] := by
  unfold f_X1_takeInto_46 at hf
  refine j_aload_n (pc := 46) C 0 rfl dX1_takeInto_46 ?_
  refine j_sipush (pc := 47) 9999 C (by decide) dX1_takeInto_47 ?_
  refine j_aload_n (pc := 50) C 0 rfl dX1_takeInto_50 ?_
  refine j_get (pc := 51) 0 1 4 C iw_X1_takeInto_X1 rfl rfl (by decide) fl_X1_takeInto_43 rfl rfl dX1_takeInto_51 ?_
  refine j_iload_n (pc := 54) C 1 rfl dX1_takeInto_54 ?_
  refine j_iadd (pc := 55) C dX1_takeInto_55 ?_
  refine j_mmin (pc := 56) C mm_X1_takeInto_min.1 mm_X1_takeInto_min.2.1 mm_X1_takeInto_min.2.2.1 mm_X1_takeInto_min.2.2.2 (by decide) (Nat.le_of_ble_eq_true rfl) dX1_takeInto_56 ?_
  refine j_put (pc := 59) (ty := .int) 0 1 4 [(r0, .inr (1, [.int rCells, .int rSigns, .int rHour, .int rStops, .int (if (rWaste + v3) < 9999 then (rWaste + v3) else 9999), .int rDone, .int rBridged, .ref rKindA, .ref rRoomA, .ref rChargeA, .ref rLeakA, .ref rPlanA])), (rKindA, .inl (D.1 7, 5, .inl rKind)), (rRoomA, .inl (D.1 7, 5, .inl rRoom)), (rChargeA, .inl (D.1 7, 5, .inl rCharge)), (rLeakA, .inl (D.1 7, 5, .inl rLeak)), (rPlanA, .inl (D.1 7, 16, .inl rPlan))] C iw_X1_takeInto_X1 tyX1 tyX1_ok nmX1 rfl rfl (by decide) fl_X1_takeInto_43 rfl rfl rfl rfl rfl (Nat.le_of_ble_eq_true rfl) rfl dX1_takeInto_59 ?_
  obtain ⟨rfl, rfl⟩ := si2 hf
  exact j_vret (pc := 62) C dX1_takeInto_62
set_option maxHeartbeats 4000000 in
set_option maxRecDepth 100000 in
theorem t_X1_takeInto_33 {G : jX} {D : va_G} {r0 rKindA rRoomA rChargeA rLeakA rPlanA : Nat} {v1 : Int32} {v3 : Int32} {rCells : Int32} {rSigns : Int32} {rHour : Int32} {rStops : Int32} {rWaste : Int32} {rDone : Int32} {rBridged : Int32} {rKind : Nat → Int32} {rRoom : Nat → Int32} {rCharge : Nat → Int32} {rLeak : Nat → Int32} {rPlan : Nat → Int32} {oRWaste : Int32} {oRCharge : Nat → Int32} (C : KC G D cX1_takeInto RX1 wsX1_takeInto ({ frames := 1, cells := 0, slots := 0, locals := 24 } : Room) 4 none none [(r0, .inr (1, [.int rCells, .int rSigns, .int rHour, .int rStops, .int oRWaste, .int rDone, .int rBridged, .ref rKindA, .ref rRoomA, .ref rChargeA, .ref rLeakA, .ref rPlanA])), (rKindA, .inl (D.1 7, 5, .inl rKind)), (rRoomA, .inl (D.1 7, 5, .inl rRoom)), (rChargeA, .inl (D.1 7, 5, .inl oRCharge)), (rLeakA, .inl (D.1 7, 5, .inl rLeak)), (rPlanA, .inl (D.1 7, 16, .inl rPlan))]) (hf : f_X1_takeInto_33 v1 v3 rCells rWaste rBridged rKind rRoom rCharge = some (oRWaste, oRCharge)) : JW G D 33 [(0, .ref r0), (1, .int v1), (3, .int v3)] [] [(r0, .inr (1, [.int rCells, .int rSigns, .int rHour, .int rStops, .int rWaste, .int rDone, .int rBridged, .ref rKindA, .ref rRoomA, .ref rChargeA, .ref rLeakA, .ref rPlanA])), (rKindA, .inl (D.1 7, 5, .inl rKind)), (rRoomA, .inl (D.1 7, 5, .inl rRoom)), (rChargeA, .inl (D.1 7, 5, .inl rCharge)), (rLeakA, .inl (D.1 7, 5, .inl rLeak)), (rPlanA, .inl (D.1 7, 16, .inl rPlan))] := by
  unfold f_X1_takeInto_33 at hf
  refine j_iload_n (pc := 33) C 2 rfl dX1_takeInto_33 ?_
  refine j_aload_n (pc := 34) C 0 rfl dX1_takeInto_34 ?_
  refine j_aload_n (pc := 35) C 0 rfl dX1_takeInto_35 ?_
  refine j_iload_n (pc := 36) C 1 rfl dX1_takeInto_36 ?_
  obtain ⟨a_4, hu, hf⟩ := ob1_some hf
  refine j_callV (pc := 37) (N := 6) (qr := 0) (ci := 1) [.int v1] [.ref r0, .int v3] [.int v1, .ref r0, .ref r0, .int v3] [.int a_4, .ref r0, .int v3] [(r0, .inr (1, [.int rCells, .int rSigns, .int rHour, .int rStops, .int rWaste, .int rDone, .int rBridged, .ref rKindA, .ref rRoomA, .ref rChargeA, .ref rLeakA, .ref rPlanA])), (rKindA, .inl (D.1 7, 5, .inl rKind)), (rRoomA, .inl (D.1 7, 5, .inl rRoom)), (rChargeA, .inl (D.1 7, 5, .inl rCharge)), (rLeakA, .inl (D.1 7, 5, .inl rLeak)), (rPlanA, .inl (D.1 7, 16, .inl rPlan))] [] [r0, rKindA, rRoomA, rChargeA, rLeakA, rPlanA] [0, 1, 2, 3, 4, 5] [] C (c_X1_poorest D r0 rKindA rRoomA rChargeA rLeakA rPlanA v1 rCells rSigns rHour rStops rWaste rDone rBridged rKind rRoom rCharge rLeak rPlan a_4 hu) k_X1_poorest gX1_takeInto_X1_poorest ⟨rfl, rfl⟩ ⟨Nat.le_of_ble_eq_true rfl, Nat.le_of_ble_eq_true rfl⟩ rfl rfl rfl rfl rfl rfl (Nat.le_of_ble_eq_true rfl) rfl rfl rfl rfl (by decide) (by decide) (by decide) rfl rfl rfl dX1_takeInto_37 ?_
  refine j_iload_n (pc := 40) C 2 rfl dX1_takeInto_40 ?_
  obtain ⟨a_5, rCharge_6, hu, hf⟩ := ob2_some hf
  refine j_callV (pc := 41) (N := 6) (qr := 0) (ci := 1) [.int a_4, .int v3] [.int v3] [.int v3, .int a_4, .ref r0, .int v3] [.int a_5, .int v3] [(r0, .inr (1, [.int rCells, .int rSigns, .int rHour, .int rStops, .int rWaste, .int rDone, .int rBridged, .ref rKindA, .ref rRoomA, .ref rChargeA, .ref rLeakA, .ref rPlanA])), (rKindA, .inl (D.1 7, 5, .inl rKind)), (rRoomA, .inl (D.1 7, 5, .inl rRoom)), (rChargeA, .inl (D.1 7, 5, .inl rCharge_6)), (rLeakA, .inl (D.1 7, 5, .inl rLeak)), (rPlanA, .inl (D.1 7, 16, .inl rPlan))] [] [r0, rKindA, rRoomA, rChargeA, rLeakA, rPlanA] [0, 1, 2, 3, 4, 5] [] C (c_X1_put D r0 rKindA rRoomA rChargeA rLeakA rPlanA a_4 v3 rCells rSigns rHour rStops rWaste rDone rBridged rKind rRoom rCharge rLeak rPlan a_5 rCharge_6 hu) k_X1_put gX1_takeInto_X1_put ⟨rfl, rfl⟩ ⟨Nat.le_of_ble_eq_true rfl, Nat.le_of_ble_eq_true rfl⟩ rfl rfl rfl rfl rfl rfl (Nat.le_of_ble_eq_true rfl) rfl rfl rfl rfl (by decide) (by decide) (by decide) rfl rfl rfl dX1_takeInto_41 ?_
  refine j_isub (pc := 44) C dX1_takeInto_44 ?_
  refine j_bdi hf (fun y_7 hf => ?_)
  refine j_istore_n (pc := 45) 3 [(0, .ref r0), (1, .int v1), (3, .int y_7)] [1, 2, 0] C rfl (by decide) rfl dX1_takeInto_45 ?_
  refine j_lv [(0, .ref r0), (3, .int y_7)] [0, 2] rfl ?_
  exact t_X1_takeInto_46 C hf
set_option maxHeartbeats 4000000 in
set_option maxRecDepth 100000 in
theorem t_X1_takeInto_0 {G : jX} {D : va_G} {r0 rKindA rRoomA rChargeA rLeakA rPlanA : Nat} {v1 : Int32} {v2 : Int32} {rCells : Int32} {rSigns : Int32} {rHour : Int32} {rStops : Int32} {rWaste : Int32} {rDone : Int32} {rBridged : Int32} {rKind : Nat → Int32} {rRoom : Nat → Int32} {rCharge : Nat → Int32} {rLeak : Nat → Int32} {rPlan : Nat → Int32} {oRWaste : Int32} {oRCharge : Nat → Int32} (C : KC G D cX1_takeInto RX1 wsX1_takeInto ({ frames := 1, cells := 0, slots := 0, locals := 24 } : Room) 4 none none [(r0, .inr (1, [.int rCells, .int rSigns, .int rHour, .int rStops, .int oRWaste, .int rDone, .int rBridged, .ref rKindA, .ref rRoomA, .ref rChargeA, .ref rLeakA, .ref rPlanA])), (rKindA, .inl (D.1 7, 5, .inl rKind)), (rRoomA, .inl (D.1 7, 5, .inl rRoom)), (rChargeA, .inl (D.1 7, 5, .inl oRCharge)), (rLeakA, .inl (D.1 7, 5, .inl rLeak)), (rPlanA, .inl (D.1 7, 16, .inl rPlan))]) (hf : f_X1_takeInto v1 v2 rCells rWaste rBridged rKind rRoom rCharge = some (oRWaste, oRCharge)) : JW G D 0 [(0, .ref r0), (1, .int v1), (2, .int v2)] [] [(r0, .inr (1, [.int rCells, .int rSigns, .int rHour, .int rStops, .int rWaste, .int rDone, .int rBridged, .ref rKindA, .ref rRoomA, .ref rChargeA, .ref rLeakA, .ref rPlanA])), (rKindA, .inl (D.1 7, 5, .inl rKind)), (rRoomA, .inl (D.1 7, 5, .inl rRoom)), (rChargeA, .inl (D.1 7, 5, .inl rCharge)), (rLeakA, .inl (D.1 7, 5, .inl rLeak)), (rPlanA, .inl (D.1 7, 16, .inl rPlan))] := by
  unfold f_X1_takeInto at hf
  refine j_iload_n (pc := 0) C 2 rfl dX1_takeInto_0 ?_
  refine j_aload_n (pc := 1) C 0 rfl dX1_takeInto_1 ?_
  refine j_iload_n (pc := 2) C 1 rfl dX1_takeInto_2 ?_
  refine j_iload_n (pc := 3) C 2 rfl dX1_takeInto_3 ?_
  obtain ⟨a_1, rCharge_2, hu, hf⟩ := ob2_some hf
  refine j_callV (pc := 4) (N := 6) (qr := 0) (ci := 1) [.int v1, .int v2] [.int v2] [.int v2, .int v1, .ref r0, .int v2] [.int a_1, .int v2] [(r0, .inr (1, [.int rCells, .int rSigns, .int rHour, .int rStops, .int rWaste, .int rDone, .int rBridged, .ref rKindA, .ref rRoomA, .ref rChargeA, .ref rLeakA, .ref rPlanA])), (rKindA, .inl (D.1 7, 5, .inl rKind)), (rRoomA, .inl (D.1 7, 5, .inl rRoom)), (rChargeA, .inl (D.1 7, 5, .inl rCharge_2)), (rLeakA, .inl (D.1 7, 5, .inl rLeak)), (rPlanA, .inl (D.1 7, 16, .inl rPlan))] [] [r0, rKindA, rRoomA, rChargeA, rLeakA, rPlanA] [0, 1, 2, 3, 4, 5] [] C (c_X1_put D r0 rKindA rRoomA rChargeA rLeakA rPlanA v1 v2 rCells rSigns rHour rStops rWaste rDone rBridged rKind rRoom rCharge rLeak rPlan a_1 rCharge_2 hu) k_X1_put gX1_takeInto_X1_put ⟨rfl, rfl⟩ ⟨Nat.le_of_ble_eq_true rfl, Nat.le_of_ble_eq_true rfl⟩ rfl rfl rfl rfl rfl rfl (Nat.le_of_ble_eq_true rfl) rfl rfl rfl rfl (by decide) (by decide) (by decide) rfl rfl rfl dX1_takeInto_4 ?_
  refine j_isub (pc := 7) C dX1_takeInto_7 ?_
  refine j_bdi hf (fun y_3 hf => ?_)
  refine j_istore_n (pc := 8) 3 [(0, .ref r0), (1, .int v1), (2, .int v2), (3, .int y_3)] [1, 2, 3, 0] C rfl (by decide) rfl dX1_takeInto_8 ?_
  refine j_iload_n (pc := 9) C 3 rfl dX1_takeInto_9 ?_
  refine j_if_le (pc := 10) 46 C hf (by decide) dX1_takeInto_10 (fun hf => ?_) (fun hf => ?_)
  · refine j_lv [(0, .ref r0), (3, .int y_3)] [0, 3] rfl ?_
    exact t_X1_takeInto_46 C hf
  · refine j_aload_n (pc := 13) C 0 rfl dX1_takeInto_13 ?_
    refine j_get (pc := 14) 0 1 7 C iw_X1_takeInto_X1 rfl rfl (by decide) fl_X1_takeInto_15 rfl rfl dX1_takeInto_14 ?_
    refine j_iload_n (pc := 17) C 1 rfl dX1_takeInto_17 ?_
    refine j_iald (pc := 18) 1 C rfl hf dX1_takeInto_18 (fun hf => ?_)
    refine j_iconst (pc := 19) 2 C (by decide) dX1_takeInto_19 ?_
    refine j_icmp_eq (pc := 20) 33 C hf (by decide) dX1_takeInto_20 (fun hf => ?_) (fun hf => ?_)
    · refine j_lv [(0, .ref r0), (1, .int v1), (3, .int y_3)] [0, 1, 3] rfl ?_
      exact t_X1_takeInto_33 C hf
    · refine j_aload_n (pc := 23) C 0 rfl dX1_takeInto_23 ?_
      refine j_get (pc := 24) 0 1 7 C iw_X1_takeInto_X1 rfl rfl (by decide) fl_X1_takeInto_15 rfl rfl dX1_takeInto_24 ?_
      refine j_iload_n (pc := 27) C 1 rfl dX1_takeInto_27 ?_
      refine j_iald (pc := 28) 1 C rfl hf dX1_takeInto_28 (fun hf => ?_)
      refine j_iconst (pc := 29) 3 C (by decide) dX1_takeInto_29 ?_
      refine j_icmp_ne (pc := 30) 46 C hf (by decide) dX1_takeInto_30 (fun hf => ?_) (fun hf => ?_)
      · refine j_lv [(0, .ref r0), (3, .int y_3)] [0, 3] rfl ?_
        exact t_X1_takeInto_46 C hf
      · refine j_lv [(0, .ref r0), (1, .int v1), (3, .int y_3)] [0, 1, 3] rfl ?_
        exact t_X1_takeInto_33 C hf
theorem k_X1_takeInto : CK yX1_takeInto wsX1_takeInto cX1_takeInto 4 none 2 := ⟨rfl, by decide +kernel⟩
theorem c_X1_takeInto (D : va_G) (r0 rKindA rRoomA rChargeA rLeakA rPlanA : Nat) (v1 : Int32) (v2 : Int32) (rCells : Int32) (rSigns : Int32) (rHour : Int32) (rStops : Int32) (rWaste : Int32) (rDone : Int32) (rBridged : Int32) (rKind : Nat → Int32) (rRoom : Nat → Int32) (rCharge : Nat → Int32) (rLeak : Nat → Int32) (rPlan : Nat → Int32) (oRWaste : Int32) (oRCharge : Nat → Int32) (hf : f_X1_takeInto v1 v2 rCells rWaste rBridged rKind rRoom rCharge = some (oRWaste, oRCharge)) : ∀ l, MW l yX1_takeInto wsX1_takeInto ({ frames := 1, cells := 0, slots := 0, locals := 24 } : Room) D [.ref r0, .int v1, .int v2] [(r0, .inr (1, [.int rCells, .int rSigns, .int rHour, .int rStops, .int rWaste, .int rDone, .int rBridged, .ref rKindA, .ref rRoomA, .ref rChargeA, .ref rLeakA, .ref rPlanA])), (rKindA, .inl (D.1 7, 5, .inl rKind)), (rRoomA, .inl (D.1 7, 5, .inl rRoom)), (rChargeA, .inl (D.1 7, 5, .inl rCharge)), (rLeakA, .inl (D.1 7, 5, .inl rLeak)), (rPlanA, .inl (D.1 7, 16, .inl rPlan))] none [(r0, .inr (1, [.int rCells, .int rSigns, .int rHour, .int rStops, .int oRWaste, .int rDone, .int rBridged, .ref rKindA, .ref rRoomA, .ref rChargeA, .ref rLeakA, .ref rPlanA])), (rKindA, .inl (D.1 7, 5, .inl rKind)), (rRoomA, .inl (D.1 7, 5, .inl rRoom)), (rChargeA, .inl (D.1 7, 5, .inl oRCharge)), (rLeakA, .inl (D.1 7, 5, .inl rLeak)), (rPlanA, .inl (D.1 7, 16, .inl rPlan))] := j_met (cc := cX1_takeInto) (nl := 4) (rt := none) (own := RX1) (lv := [(0, .ref r0), (1, .int v1), (2, .int v2)]) (by decide +kernel) rfl rfl rfl (Nat.le_of_ble_eq_true rfl) (fun G C => t_X1_takeInto_0 C hf)

-- X1_draw
theorem fl_X1_draw_22 : Cond.fieldLink RX1 22 "CellsInRow$Row" "charge" "[I" ∈ wsX1_draw := by decide +kernel
theorem iw_X1_draw_X1 : ∀ w ∈ wsX10, w ∈ wsX1_draw := by decide +kernel
set_option maxHeartbeats 4000000 in
set_option maxRecDepth 100000 in
theorem t_X1_draw_20 {G : jX} {D : va_G} {r0 rKindA rRoomA rChargeA rLeakA rPlanA : Nat} {v1 : Int32} {u0 : Int32} {rCells : Int32} {rSigns : Int32} {rHour : Int32} {rStops : Int32} {rWaste : Int32} {rDone : Int32} {rBridged : Int32} {rKind : Nat → Int32} {rRoom : Nat → Int32} {rCharge : Nat → Int32} {rLeak : Nat → Int32} {rPlan : Nat → Int32} {oR : Int32} {oRCharge : Nat → Int32} (C : KC G D cX1_draw RX1 wsX1_draw ({ frames := 0, cells := 0, slots := 0, locals := 0 } : Room) 4 (some .int) (some (.int oR)) [(r0, .inr (1, [.int rCells, .int rSigns, .int rHour, .int rStops, .int rWaste, .int rDone, .int rBridged, .ref rKindA, .ref rRoomA, .ref rChargeA, .ref rLeakA, .ref rPlanA])), (rKindA, .inl (D.1 7, 5, .inl rKind)), (rRoomA, .inl (D.1 7, 5, .inl rRoom)), (rChargeA, .inl (D.1 7, 5, .inl oRCharge)), (rLeakA, .inl (D.1 7, 5, .inl rLeak)), (rPlanA, .inl (D.1 7, 16, .inl rPlan))]) (hf : f_X1_draw_20 v1 u0 rCharge = some (oR, oRCharge)) : JW G D 20 [(0, .ref r0), (1, .int v1)] [.int u0] [(r0, .inr (1, [.int rCells, .int rSigns, .int rHour, .int rStops, .int rWaste, .int rDone, .int rBridged, .ref rKindA, .ref rRoomA, .ref rChargeA, .ref rLeakA, .ref rPlanA])), (rKindA, .inl (D.1 7, 5, .inl rKind)), (rRoomA, .inl (D.1 7, 5, .inl rRoom)), (rChargeA, .inl (D.1 7, 5, .inl rCharge)), (rLeakA, .inl (D.1 7, 5, .inl rLeak)), (rPlanA, .inl (D.1 7, 16, .inl rPlan))] := by
  unfold f_X1_draw_20 at hf
  refine j_istore_n (pc := 20) 3 [(0, .ref r0), (1, .int v1), (3, .int u0)] [1, 2, 0] C rfl (by decide) rfl dX1_draw_20 ?_
  refine j_aload_n (pc := 21) C 0 rfl dX1_draw_21 ?_
  refine j_get (pc := 22) 0 1 9 C iw_X1_draw_X1 rfl rfl (by decide) fl_X1_draw_22 rfl rfl dX1_draw_22 ?_
  refine j_iload_n (pc := 25) C 1 rfl dX1_draw_25 ?_
  refine j_dup2 (pc := 26) C rfl rfl dX1_draw_26 ?_
  refine j_iald (pc := 27) 3 C rfl hf dX1_draw_27 (fun hf => ?_)
  refine j_iload_n (pc := 28) C 2 rfl dX1_draw_28 ?_
  refine j_isub (pc := 29) C dX1_draw_29 ?_
  refine j_iast (pc := 30) 3 [(r0, .inr (1, [.int rCells, .int rSigns, .int rHour, .int rStops, .int rWaste, .int rDone, .int rBridged, .ref rKindA, .ref rRoomA, .ref rChargeA, .ref rLeakA, .ref rPlanA])), (rKindA, .inl (D.1 7, 5, .inl rKind)), (rRoomA, .inl (D.1 7, 5, .inl rRoom)), (rChargeA, .inl (D.1 7, 5, .inl (upd rCharge v1.toNatClampNeg ((rCharge v1.toNatClampNeg) - u0)))), (rLeakA, .inl (D.1 7, 5, .inl rLeak)), (rPlanA, .inl (D.1 7, 16, .inl rPlan))] C rfl rfl hf dX1_draw_30 (fun hf => ?_)
  refine j_iload_n (pc := 31) C 2 rfl dX1_draw_31 ?_
  obtain ⟨rfl, rfl⟩ := si2 hf
  exact j_iret (pc := 32) C dX1_draw_32
set_option maxHeartbeats 4000000 in
set_option maxRecDepth 100000 in
theorem t_X1_draw_0 {G : jX} {D : va_G} {r0 rKindA rRoomA rChargeA rLeakA rPlanA : Nat} {v1 : Int32} {v2 : Int32} {rCells : Int32} {rSigns : Int32} {rHour : Int32} {rStops : Int32} {rWaste : Int32} {rDone : Int32} {rBridged : Int32} {rKind : Nat → Int32} {rRoom : Nat → Int32} {rCharge : Nat → Int32} {rLeak : Nat → Int32} {rPlan : Nat → Int32} {oR : Int32} {oRCharge : Nat → Int32} (C : KC G D cX1_draw RX1 wsX1_draw ({ frames := 0, cells := 0, slots := 0, locals := 0 } : Room) 4 (some .int) (some (.int oR)) [(r0, .inr (1, [.int rCells, .int rSigns, .int rHour, .int rStops, .int rWaste, .int rDone, .int rBridged, .ref rKindA, .ref rRoomA, .ref rChargeA, .ref rLeakA, .ref rPlanA])), (rKindA, .inl (D.1 7, 5, .inl rKind)), (rRoomA, .inl (D.1 7, 5, .inl rRoom)), (rChargeA, .inl (D.1 7, 5, .inl oRCharge)), (rLeakA, .inl (D.1 7, 5, .inl rLeak)), (rPlanA, .inl (D.1 7, 16, .inl rPlan))]) (hf : f_X1_draw v1 v2 rCharge = some (oR, oRCharge)) : JW G D 0 [(0, .ref r0), (1, .int v1), (2, .int v2)] [] [(r0, .inr (1, [.int rCells, .int rSigns, .int rHour, .int rStops, .int rWaste, .int rDone, .int rBridged, .ref rKindA, .ref rRoomA, .ref rChargeA, .ref rLeakA, .ref rPlanA])), (rKindA, .inl (D.1 7, 5, .inl rKind)), (rRoomA, .inl (D.1 7, 5, .inl rRoom)), (rChargeA, .inl (D.1 7, 5, .inl rCharge)), (rLeakA, .inl (D.1 7, 5, .inl rLeak)), (rPlanA, .inl (D.1 7, 16, .inl rPlan))] := by
  unfold f_X1_draw at hf
  refine j_iload_n (pc := 0) C 2 rfl dX1_draw_0 ?_
  refine j_aload_n (pc := 1) C 0 rfl dX1_draw_1 ?_
  refine j_get (pc := 2) 0 1 9 C iw_X1_draw_X1 rfl rfl (by decide) fl_X1_draw_22 rfl rfl dX1_draw_2 ?_
  refine j_iload_n (pc := 5) C 1 rfl dX1_draw_5 ?_
  refine j_iald (pc := 6) 3 C rfl hf dX1_draw_6 (fun hf => ?_)
  refine j_icmp_ge (pc := 7) 14 C hf (by decide) dX1_draw_7 (fun hf => ?_) (fun hf => ?_)
  · refine j_aload_n (pc := 14) C 0 rfl dX1_draw_14 ?_
    refine j_get (pc := 15) 0 1 9 C iw_X1_draw_X1 rfl rfl (by decide) fl_X1_draw_22 rfl rfl dX1_draw_15 ?_
    refine j_iload_n (pc := 18) C 1 rfl dX1_draw_18 ?_
    refine j_iald (pc := 19) 3 C rfl hf dX1_draw_19 (fun hf => ?_)
    refine j_lv [(0, .ref r0), (1, .int v1)] [0, 1] rfl ?_
    exact t_X1_draw_20 C hf
  · refine j_iload_n (pc := 10) C 2 rfl dX1_draw_10 ?_
    refine j_goto (pc := 11) 20 C (by decide) dX1_draw_11 ?_
    refine j_lv [(0, .ref r0), (1, .int v1)] [0, 1] rfl ?_
    exact t_X1_draw_20 C hf
theorem k_X1_draw : CK yX1_draw wsX1_draw cX1_draw 4 (some .int) 2 := ⟨rfl, by decide +kernel⟩
theorem c_X1_draw (D : va_G) (r0 rKindA rRoomA rChargeA rLeakA rPlanA : Nat) (v1 : Int32) (v2 : Int32) (rCells : Int32) (rSigns : Int32) (rHour : Int32) (rStops : Int32) (rWaste : Int32) (rDone : Int32) (rBridged : Int32) (rKind : Nat → Int32) (rRoom : Nat → Int32) (rCharge : Nat → Int32) (rLeak : Nat → Int32) (rPlan : Nat → Int32) (oR : Int32) (oRCharge : Nat → Int32) (hf : f_X1_draw v1 v2 rCharge = some (oR, oRCharge)) : ∀ l, MW l yX1_draw wsX1_draw ({ frames := 0, cells := 0, slots := 0, locals := 0 } : Room) D [.ref r0, .int v1, .int v2] [(r0, .inr (1, [.int rCells, .int rSigns, .int rHour, .int rStops, .int rWaste, .int rDone, .int rBridged, .ref rKindA, .ref rRoomA, .ref rChargeA, .ref rLeakA, .ref rPlanA])), (rKindA, .inl (D.1 7, 5, .inl rKind)), (rRoomA, .inl (D.1 7, 5, .inl rRoom)), (rChargeA, .inl (D.1 7, 5, .inl rCharge)), (rLeakA, .inl (D.1 7, 5, .inl rLeak)), (rPlanA, .inl (D.1 7, 16, .inl rPlan))] (some (.int oR)) [(r0, .inr (1, [.int rCells, .int rSigns, .int rHour, .int rStops, .int rWaste, .int rDone, .int rBridged, .ref rKindA, .ref rRoomA, .ref rChargeA, .ref rLeakA, .ref rPlanA])), (rKindA, .inl (D.1 7, 5, .inl rKind)), (rRoomA, .inl (D.1 7, 5, .inl rRoom)), (rChargeA, .inl (D.1 7, 5, .inl oRCharge)), (rLeakA, .inl (D.1 7, 5, .inl rLeak)), (rPlanA, .inl (D.1 7, 16, .inl rPlan))] := j_met (cc := cX1_draw) (nl := 4) (rt := (some .int)) (own := RX1) (lv := [(0, .ref r0), (1, .int v1), (2, .int v2)]) (by decide +kernel) rfl rfl rfl (Nat.le_of_ble_eq_true rfl) (fun G C => t_X1_draw_0 C hf)

-- X1_richest
theorem fl_X1_richest_31 : Cond.fieldLink RX1 31 "CellsInRow$Row" "cells" "I" ∈ wsX1_richest := by decide +kernel
theorem iw_X1_richest_X1 : ∀ w ∈ wsX10, w ∈ wsX1_richest := by decide +kernel
theorem fl_X1_richest_9 : Cond.fieldLink RX1 9 "CellsInRow$Row" "bridged" "I" ∈ wsX1_richest := by decide +kernel
theorem fl_X1_richest_22 : Cond.fieldLink RX1 22 "CellsInRow$Row" "charge" "[I" ∈ wsX1_richest := by decide +kernel
set_option maxHeartbeats 4000000 in
set_option maxRecDepth 100000 in
theorem t_X1_richest_9 {G : jX} {D : va_G} {r0 rKindA rRoomA rChargeA rLeakA rPlanA : Nat} {rCells : Int32} {rSigns : Int32} {rHour : Int32} {rStops : Int32} {rWaste : Int32} {rDone : Int32} {rBridged : Int32} {rKind : Nat → Int32} {rRoom : Nat → Int32} {rCharge : Nat → Int32} {rLeak : Nat → Int32} {rPlan : Nat → Int32} {oR : Int32} (C : KC G D cX1_richest RX1 wsX1_richest ({ frames := 0, cells := 0, slots := 0, locals := 0 } : Room) 4 (some .int) (some (.int oR)) [(r0, .inr (1, [.int rCells, .int rSigns, .int rHour, .int rStops, .int rWaste, .int rDone, .int rBridged, .ref rKindA, .ref rRoomA, .ref rChargeA, .ref rLeakA, .ref rPlanA])), (rKindA, .inl (D.1 7, 5, .inl rKind)), (rRoomA, .inl (D.1 7, 5, .inl rRoom)), (rChargeA, .inl (D.1 7, 5, .inl rCharge)), (rLeakA, .inl (D.1 7, 5, .inl rLeak)), (rPlanA, .inl (D.1 7, 16, .inl rPlan))]) : ∀ (n : Nat) (v2 : Int32) (v3 : Int32), f_X1_richest_9 rCells rBridged rCharge n v2 v3 = some oR → JW G D 9 [(0, .ref r0), (2, .int v2), (3, .int v3)] [] [(r0, .inr (1, [.int rCells, .int rSigns, .int rHour, .int rStops, .int rWaste, .int rDone, .int rBridged, .ref rKindA, .ref rRoomA, .ref rChargeA, .ref rLeakA, .ref rPlanA])), (rKindA, .inl (D.1 7, 5, .inl rKind)), (rRoomA, .inl (D.1 7, 5, .inl rRoom)), (rChargeA, .inl (D.1 7, 5, .inl rCharge)), (rLeakA, .inl (D.1 7, 5, .inl rLeak)), (rPlanA, .inl (D.1 7, 16, .inl rPlan))] := by
  intro n
  induction n with
  | zero => intro _ _ hf; rw [f_X1_richest_9] at hf; cases hf
  | succ n ih =>
    intro v2 v3 hf
    rw [f_X1_richest_9] at hf
    refine j_iload_n (pc := 9) C 2 rfl dX1_richest_9 ?_
    refine j_if_lt (pc := 10) 44 C hf (by decide) dX1_richest_10 (fun hf => ?_) (fun hf => ?_)
    · refine j_iload_n (pc := 44) C 1 rfl dX1_richest_44 ?_
      obtain rfl := si1 hf
      exact j_iret (pc := 45) C dX1_richest_45
    · refine j_iload_n (pc := 13) C 2 rfl dX1_richest_13 ?_
      refine j_aload_n (pc := 14) C 0 rfl dX1_richest_14 ?_
      refine j_get (pc := 15) 0 1 6 C iw_X1_richest_X1 rfl rfl (by decide) fl_X1_richest_9 rfl rfl dX1_richest_15 ?_
      refine j_icmp_eq (pc := 18) 38 C hf (by decide) dX1_richest_18 (fun hf => ?_) (fun hf => ?_)
      · refine j_iinc (pc := 38) (v3 + (-1)) 3 2 [(0, .ref r0), (2, .int v2), (3, .int (v3 + (-1)))] [1, 2, 0] C rfl (by rfl) (by decide) rfl dX1_richest_38 ?_
        refine j_goto (pc := 41) 9 C (by decide) dX1_richest_41 ?_
        exact ih _ _ hf
      · refine j_aload_n (pc := 21) C 0 rfl dX1_richest_21 ?_
        refine j_get (pc := 22) 0 1 9 C iw_X1_richest_X1 rfl rfl (by decide) fl_X1_richest_22 rfl rfl dX1_richest_22 ?_
        refine j_iload_n (pc := 25) C 2 rfl dX1_richest_25 ?_
        refine j_iald (pc := 26) 3 C rfl hf dX1_richest_26 (fun hf => ?_)
        refine j_aload_n (pc := 27) C 0 rfl dX1_richest_27 ?_
        refine j_get (pc := 28) 0 1 9 C iw_X1_richest_X1 rfl rfl (by decide) fl_X1_richest_22 rfl rfl dX1_richest_28 ?_
        refine j_iload_n (pc := 31) C 1 rfl dX1_richest_31 ?_
        refine j_iald (pc := 32) 3 C rfl hf dX1_richest_32 (fun hf => ?_)
        refine j_icmp_lt (pc := 33) 38 C hf (by decide) dX1_richest_33 (fun hf => ?_) (fun hf => ?_)
        · refine j_iinc (pc := 38) (v3 + (-1)) 3 2 [(0, .ref r0), (2, .int v2), (3, .int (v3 + (-1)))] [1, 2, 0] C rfl (by rfl) (by decide) rfl dX1_richest_38 ?_
          refine j_goto (pc := 41) 9 C (by decide) dX1_richest_41 ?_
          exact ih _ _ hf
        · refine j_iload_n (pc := 36) C 2 rfl dX1_richest_36 ?_
          refine j_istore_n (pc := 37) 2 [(0, .ref r0), (2, .int v3), (3, .int v3)] [1, 0, 2] C rfl (by decide) rfl dX1_richest_37 ?_
          refine j_iinc (pc := 38) (v3 + (-1)) 3 2 [(0, .ref r0), (2, .int v3), (3, .int (v3 + (-1)))] [1, 2, 0] C rfl (by rfl) (by decide) rfl dX1_richest_38 ?_
          refine j_goto (pc := 41) 9 C (by decide) dX1_richest_41 ?_
          exact ih _ _ hf
set_option maxHeartbeats 4000000 in
set_option maxRecDepth 100000 in
theorem t_X1_richest_0 {G : jX} {D : va_G} {r0 rKindA rRoomA rChargeA rLeakA rPlanA : Nat} {v1 : Int32} {rCells : Int32} {rSigns : Int32} {rHour : Int32} {rStops : Int32} {rWaste : Int32} {rDone : Int32} {rBridged : Int32} {rKind : Nat → Int32} {rRoom : Nat → Int32} {rCharge : Nat → Int32} {rLeak : Nat → Int32} {rPlan : Nat → Int32} {oR : Int32} (C : KC G D cX1_richest RX1 wsX1_richest ({ frames := 0, cells := 0, slots := 0, locals := 0 } : Room) 4 (some .int) (some (.int oR)) [(r0, .inr (1, [.int rCells, .int rSigns, .int rHour, .int rStops, .int rWaste, .int rDone, .int rBridged, .ref rKindA, .ref rRoomA, .ref rChargeA, .ref rLeakA, .ref rPlanA])), (rKindA, .inl (D.1 7, 5, .inl rKind)), (rRoomA, .inl (D.1 7, 5, .inl rRoom)), (rChargeA, .inl (D.1 7, 5, .inl rCharge)), (rLeakA, .inl (D.1 7, 5, .inl rLeak)), (rPlanA, .inl (D.1 7, 16, .inl rPlan))]) (hf : f_X1_richest v1 rCells rBridged rCharge = some oR) : JW G D 0 [(0, .ref r0), (1, .int v1)] [] [(r0, .inr (1, [.int rCells, .int rSigns, .int rHour, .int rStops, .int rWaste, .int rDone, .int rBridged, .ref rKindA, .ref rRoomA, .ref rChargeA, .ref rLeakA, .ref rPlanA])), (rKindA, .inl (D.1 7, 5, .inl rKind)), (rRoomA, .inl (D.1 7, 5, .inl rRoom)), (rChargeA, .inl (D.1 7, 5, .inl rCharge)), (rLeakA, .inl (D.1 7, 5, .inl rLeak)), (rPlanA, .inl (D.1 7, 16, .inl rPlan))] := by
  unfold f_X1_richest at hf
  refine j_iload_n (pc := 0) C 1 rfl dX1_richest_0 ?_
  refine j_istore_n (pc := 1) 2 [(0, .ref r0), (1, .int v1), (2, .int v1)] [1, 2, 0] C rfl (by decide) rfl dX1_richest_1 ?_
  refine j_aload_n (pc := 2) C 0 rfl dX1_richest_2 ?_
  refine j_get (pc := 3) 0 1 0 C iw_X1_richest_X1 rfl rfl (by decide) fl_X1_richest_31 rfl rfl dX1_richest_3 ?_
  refine j_iconst (pc := 6) 1 C (by decide) dX1_richest_6 ?_
  refine j_isub (pc := 7) C dX1_richest_7 ?_
  refine j_bdi hf (fun y_1 hf => ?_)
  refine j_istore_n (pc := 8) 3 [(0, .ref r0), (1, .int v1), (2, .int v1), (3, .int y_1)] [1, 2, 3, 0] C rfl (by decide) rfl dX1_richest_8 ?_
  refine j_lv [(0, .ref r0), (2, .int v1), (3, .int y_1)] [0, 2, 3] rfl ?_
  exact t_X1_richest_9 C 1000 _ _ hf
theorem k_X1_richest : CK yX1_richest wsX1_richest cX1_richest 4 (some .int) 1 := ⟨rfl, by decide +kernel⟩
theorem c_X1_richest (D : va_G) (r0 rKindA rRoomA rChargeA rLeakA rPlanA : Nat) (v1 : Int32) (rCells : Int32) (rSigns : Int32) (rHour : Int32) (rStops : Int32) (rWaste : Int32) (rDone : Int32) (rBridged : Int32) (rKind : Nat → Int32) (rRoom : Nat → Int32) (rCharge : Nat → Int32) (rLeak : Nat → Int32) (rPlan : Nat → Int32) (oR : Int32) (hf : f_X1_richest v1 rCells rBridged rCharge = some oR) : ∀ l, MW l yX1_richest wsX1_richest ({ frames := 0, cells := 0, slots := 0, locals := 0 } : Room) D [.ref r0, .int v1] [(r0, .inr (1, [.int rCells, .int rSigns, .int rHour, .int rStops, .int rWaste, .int rDone, .int rBridged, .ref rKindA, .ref rRoomA, .ref rChargeA, .ref rLeakA, .ref rPlanA])), (rKindA, .inl (D.1 7, 5, .inl rKind)), (rRoomA, .inl (D.1 7, 5, .inl rRoom)), (rChargeA, .inl (D.1 7, 5, .inl rCharge)), (rLeakA, .inl (D.1 7, 5, .inl rLeak)), (rPlanA, .inl (D.1 7, 16, .inl rPlan))] (some (.int oR)) [(r0, .inr (1, [.int rCells, .int rSigns, .int rHour, .int rStops, .int rWaste, .int rDone, .int rBridged, .ref rKindA, .ref rRoomA, .ref rChargeA, .ref rLeakA, .ref rPlanA])), (rKindA, .inl (D.1 7, 5, .inl rKind)), (rRoomA, .inl (D.1 7, 5, .inl rRoom)), (rChargeA, .inl (D.1 7, 5, .inl rCharge)), (rLeakA, .inl (D.1 7, 5, .inl rLeak)), (rPlanA, .inl (D.1 7, 16, .inl rPlan))] := j_met (cc := cX1_richest) (nl := 4) (rt := (some .int)) (own := RX1) (lv := [(0, .ref r0), (1, .int v1)]) (by decide +kernel) rfl rfl rfl (Nat.le_of_ble_eq_true rfl) (fun G C => t_X1_richest_0 C hf)

-- X1_giveFrom
theorem fl_X1_giveFrom_15 : Cond.fieldLink RX1 15 "CellsInRow$Row" "kind" "[I" ∈ wsX1_giveFrom := by decide +kernel
theorem iw_X1_giveFrom_X1 : ∀ w ∈ wsX10, w ∈ wsX1_giveFrom := by decide +kernel
set_option maxHeartbeats 4000000 in
set_option maxRecDepth 100000 in
theorem t_X1_giveFrom_0 {G : jX} {D : va_G} {r0 rKindA rRoomA rChargeA rLeakA rPlanA : Nat} {v1 : Int32} {v2 : Int32} {rCells : Int32} {rSigns : Int32} {rHour : Int32} {rStops : Int32} {rWaste : Int32} {rDone : Int32} {rBridged : Int32} {rKind : Nat → Int32} {rRoom : Nat → Int32} {rCharge : Nat → Int32} {rLeak : Nat → Int32} {rPlan : Nat → Int32} {oRCharge : Nat → Int32} (C : KC G D cX1_giveFrom RX1 wsX1_giveFrom ({ frames := 1, cells := 0, slots := 0, locals := 23 } : Room) 4 none none [(r0, .inr (1, [.int rCells, .int rSigns, .int rHour, .int rStops, .int rWaste, .int rDone, .int rBridged, .ref rKindA, .ref rRoomA, .ref rChargeA, .ref rLeakA, .ref rPlanA])), (rKindA, .inl (D.1 7, 5, .inl rKind)), (rRoomA, .inl (D.1 7, 5, .inl rRoom)), (rChargeA, .inl (D.1 7, 5, .inl oRCharge)), (rLeakA, .inl (D.1 7, 5, .inl rLeak)), (rPlanA, .inl (D.1 7, 16, .inl rPlan))]) (hf : f_X1_giveFrom v1 v2 rCells rBridged rKind rCharge = some oRCharge) : JW G D 0 [(0, .ref r0), (1, .int v1), (2, .int v2)] [] [(r0, .inr (1, [.int rCells, .int rSigns, .int rHour, .int rStops, .int rWaste, .int rDone, .int rBridged, .ref rKindA, .ref rRoomA, .ref rChargeA, .ref rLeakA, .ref rPlanA])), (rKindA, .inl (D.1 7, 5, .inl rKind)), (rRoomA, .inl (D.1 7, 5, .inl rRoom)), (rChargeA, .inl (D.1 7, 5, .inl rCharge)), (rLeakA, .inl (D.1 7, 5, .inl rLeak)), (rPlanA, .inl (D.1 7, 16, .inl rPlan))] := by
  unfold f_X1_giveFrom at hf
  refine j_iload_n (pc := 0) C 2 rfl dX1_giveFrom_0 ?_
  refine j_aload_n (pc := 1) C 0 rfl dX1_giveFrom_1 ?_
  refine j_iload_n (pc := 2) C 1 rfl dX1_giveFrom_2 ?_
  refine j_iload_n (pc := 3) C 2 rfl dX1_giveFrom_3 ?_
  obtain ⟨a_1, rCharge_2, hu, hf⟩ := ob2_some hf
  refine j_callV (pc := 4) (N := 6) (qr := 0) (ci := 1) [.int v1, .int v2] [.int v2] [.int v2, .int v1, .ref r0, .int v2] [.int a_1, .int v2] [(r0, .inr (1, [.int rCells, .int rSigns, .int rHour, .int rStops, .int rWaste, .int rDone, .int rBridged, .ref rKindA, .ref rRoomA, .ref rChargeA, .ref rLeakA, .ref rPlanA])), (rKindA, .inl (D.1 7, 5, .inl rKind)), (rRoomA, .inl (D.1 7, 5, .inl rRoom)), (rChargeA, .inl (D.1 7, 5, .inl rCharge_2)), (rLeakA, .inl (D.1 7, 5, .inl rLeak)), (rPlanA, .inl (D.1 7, 16, .inl rPlan))] [] [r0, rKindA, rRoomA, rChargeA, rLeakA, rPlanA] [0, 1, 2, 3, 4, 5] [] C (c_X1_draw D r0 rKindA rRoomA rChargeA rLeakA rPlanA v1 v2 rCells rSigns rHour rStops rWaste rDone rBridged rKind rRoom rCharge rLeak rPlan a_1 rCharge_2 hu) k_X1_draw gX1_giveFrom_X1_draw ⟨rfl, rfl⟩ ⟨Nat.le_of_ble_eq_true rfl, Nat.le_of_ble_eq_true rfl⟩ rfl rfl rfl rfl rfl rfl (Nat.le_of_ble_eq_true rfl) rfl rfl rfl rfl (by decide) (by decide) (by decide) rfl rfl rfl dX1_giveFrom_4 ?_
  refine j_isub (pc := 7) C dX1_giveFrom_7 ?_
  refine j_bdi hf (fun y_3 hf => ?_)
  refine j_istore_n (pc := 8) 3 [(0, .ref r0), (1, .int v1), (2, .int v2), (3, .int y_3)] [1, 2, 3, 0] C rfl (by decide) rfl dX1_giveFrom_8 ?_
  refine j_iload_n (pc := 9) C 3 rfl dX1_giveFrom_9 ?_
  refine j_if_le (pc := 10) 34 C hf (by decide) dX1_giveFrom_10 (fun hf => ?_) (fun hf => ?_)
  · obtain rfl := si1 hf
    exact j_vret (pc := 34) C dX1_giveFrom_34
  · refine j_aload_n (pc := 13) C 0 rfl dX1_giveFrom_13 ?_
    refine j_get (pc := 14) 0 1 7 C iw_X1_giveFrom_X1 rfl rfl (by decide) fl_X1_giveFrom_15 rfl rfl dX1_giveFrom_14 ?_
    refine j_iload_n (pc := 17) C 1 rfl dX1_giveFrom_17 ?_
    refine j_iald (pc := 18) 1 C rfl hf dX1_giveFrom_18 (fun hf => ?_)
    refine j_iconst (pc := 19) 3 C (by decide) dX1_giveFrom_19 ?_
    refine j_icmp_ne (pc := 20) 34 C hf (by decide) dX1_giveFrom_20 (fun hf => ?_) (fun hf => ?_)
    · obtain rfl := si1 hf
      exact j_vret (pc := 34) C dX1_giveFrom_34
    · refine j_aload_n (pc := 23) C 0 rfl dX1_giveFrom_23 ?_
      refine j_aload_n (pc := 24) C 0 rfl dX1_giveFrom_24 ?_
      refine j_iload_n (pc := 25) C 1 rfl dX1_giveFrom_25 ?_
      obtain ⟨a_4, hu, hf⟩ := ob1_some hf
      refine j_callV (pc := 26) (N := 6) (qr := 0) (ci := 1) [.int v1] [.ref r0] [.int v1, .ref r0, .ref r0] [.int a_4, .ref r0] [(r0, .inr (1, [.int rCells, .int rSigns, .int rHour, .int rStops, .int rWaste, .int rDone, .int rBridged, .ref rKindA, .ref rRoomA, .ref rChargeA, .ref rLeakA, .ref rPlanA])), (rKindA, .inl (D.1 7, 5, .inl rKind)), (rRoomA, .inl (D.1 7, 5, .inl rRoom)), (rChargeA, .inl (D.1 7, 5, .inl rCharge_2)), (rLeakA, .inl (D.1 7, 5, .inl rLeak)), (rPlanA, .inl (D.1 7, 16, .inl rPlan))] [] [r0, rKindA, rRoomA, rChargeA, rLeakA, rPlanA] [0, 1, 2, 3, 4, 5] [] C (c_X1_richest D r0 rKindA rRoomA rChargeA rLeakA rPlanA v1 rCells rSigns rHour rStops rWaste rDone rBridged rKind rRoom rCharge_2 rLeak rPlan a_4 hu) k_X1_richest gX1_giveFrom_X1_richest ⟨rfl, rfl⟩ ⟨Nat.le_of_ble_eq_true rfl, Nat.le_of_ble_eq_true rfl⟩ rfl rfl rfl rfl rfl rfl (Nat.le_of_ble_eq_true rfl) rfl rfl rfl rfl (by decide) (by decide) (by decide) rfl rfl rfl dX1_giveFrom_26 ?_
      refine j_iload_n (pc := 29) C 3 rfl dX1_giveFrom_29 ?_
      obtain ⟨a_5, rCharge_6, hu, hf⟩ := ob2_some hf
      refine j_callV (pc := 30) (N := 6) (qr := 0) (ci := 1) [.int a_4, .int y_3] [] [.int y_3, .int a_4, .ref r0] [.int a_5] [(r0, .inr (1, [.int rCells, .int rSigns, .int rHour, .int rStops, .int rWaste, .int rDone, .int rBridged, .ref rKindA, .ref rRoomA, .ref rChargeA, .ref rLeakA, .ref rPlanA])), (rKindA, .inl (D.1 7, 5, .inl rKind)), (rRoomA, .inl (D.1 7, 5, .inl rRoom)), (rChargeA, .inl (D.1 7, 5, .inl rCharge_6)), (rLeakA, .inl (D.1 7, 5, .inl rLeak)), (rPlanA, .inl (D.1 7, 16, .inl rPlan))] [] [r0, rKindA, rRoomA, rChargeA, rLeakA, rPlanA] [0, 1, 2, 3, 4, 5] [] C (c_X1_draw D r0 rKindA rRoomA rChargeA rLeakA rPlanA a_4 y_3 rCells rSigns rHour rStops rWaste rDone rBridged rKind rRoom rCharge_2 rLeak rPlan a_5 rCharge_6 hu) k_X1_draw gX1_giveFrom_X1_draw ⟨rfl, rfl⟩ ⟨Nat.le_of_ble_eq_true rfl, Nat.le_of_ble_eq_true rfl⟩ rfl rfl rfl rfl rfl rfl (Nat.le_of_ble_eq_true rfl) rfl rfl rfl rfl (by decide) (by decide) (by decide) rfl rfl rfl dX1_giveFrom_30 ?_
      refine j_pop (pc := 33) C rfl dX1_giveFrom_33 ?_
      obtain rfl := si1 hf
      exact j_vret (pc := 34) C dX1_giveFrom_34
theorem k_X1_giveFrom : CK yX1_giveFrom wsX1_giveFrom cX1_giveFrom 4 none 2 := ⟨rfl, by decide +kernel⟩
theorem c_X1_giveFrom (D : va_G) (r0 rKindA rRoomA rChargeA rLeakA rPlanA : Nat) (v1 : Int32) (v2 : Int32) (rCells : Int32) (rSigns : Int32) (rHour : Int32) (rStops : Int32) (rWaste : Int32) (rDone : Int32) (rBridged : Int32) (rKind : Nat → Int32) (rRoom : Nat → Int32) (rCharge : Nat → Int32) (rLeak : Nat → Int32) (rPlan : Nat → Int32) (oRCharge : Nat → Int32) (hf : f_X1_giveFrom v1 v2 rCells rBridged rKind rCharge = some oRCharge) : ∀ l, MW l yX1_giveFrom wsX1_giveFrom ({ frames := 1, cells := 0, slots := 0, locals := 23 } : Room) D [.ref r0, .int v1, .int v2] [(r0, .inr (1, [.int rCells, .int rSigns, .int rHour, .int rStops, .int rWaste, .int rDone, .int rBridged, .ref rKindA, .ref rRoomA, .ref rChargeA, .ref rLeakA, .ref rPlanA])), (rKindA, .inl (D.1 7, 5, .inl rKind)), (rRoomA, .inl (D.1 7, 5, .inl rRoom)), (rChargeA, .inl (D.1 7, 5, .inl rCharge)), (rLeakA, .inl (D.1 7, 5, .inl rLeak)), (rPlanA, .inl (D.1 7, 16, .inl rPlan))] none [(r0, .inr (1, [.int rCells, .int rSigns, .int rHour, .int rStops, .int rWaste, .int rDone, .int rBridged, .ref rKindA, .ref rRoomA, .ref rChargeA, .ref rLeakA, .ref rPlanA])), (rKindA, .inl (D.1 7, 5, .inl rKind)), (rRoomA, .inl (D.1 7, 5, .inl rRoom)), (rChargeA, .inl (D.1 7, 5, .inl oRCharge)), (rLeakA, .inl (D.1 7, 5, .inl rLeak)), (rPlanA, .inl (D.1 7, 16, .inl rPlan))] := j_met (cc := cX1_giveFrom) (nl := 4) (rt := none) (own := RX1) (lv := [(0, .ref r0), (1, .int v1), (2, .int v2)]) (by decide +kernel) rfl rfl rfl (Nat.le_of_ble_eq_true rfl) (fun G C => t_X1_giveFrom_0 C hf)

-- X1_doneBy
theorem fl_X1_doneBy_31 : Cond.fieldLink RX1 31 "CellsInRow$Row" "cells" "I" ∈ wsX1_doneBy := by decide +kernel
theorem iw_X1_doneBy_X1 : ∀ w ∈ wsX10, w ∈ wsX1_doneBy := by decide +kernel
set_option maxHeartbeats 4000000 in
set_option maxRecDepth 100000 in
theorem t_X1_doneBy_0 {G : jX} {D : va_G} {r0 rKindA rRoomA rChargeA rLeakA rPlanA : Nat} {v1 : Int32} {rCells : Int32} {rSigns : Int32} {rHour : Int32} {rStops : Int32} {rWaste : Int32} {rDone : Int32} {rBridged : Int32} {rKind : Nat → Int32} {rRoom : Nat → Int32} {rCharge : Nat → Int32} {rLeak : Nat → Int32} {rPlan : Nat → Int32} {oR : Int32} (C : KC G D cX1_doneBy RX1 wsX1_doneBy ({ frames := 0, cells := 0, slots := 0, locals := 0 } : Room) 2 (some .int) (some (.int oR)) [(r0, .inr (1, [.int rCells, .int rSigns, .int rHour, .int rStops, .int rWaste, .int rDone, .int rBridged, .ref rKindA, .ref rRoomA, .ref rChargeA, .ref rLeakA, .ref rPlanA])), (rKindA, .inl (D.1 7, 5, .inl rKind)), (rRoomA, .inl (D.1 7, 5, .inl rRoom)), (rChargeA, .inl (D.1 7, 5, .inl rCharge)), (rLeakA, .inl (D.1 7, 5, .inl rLeak)), (rPlanA, .inl (D.1 7, 16, .inl rPlan))]) (hf : f_X1_doneBy v1 rCells = some oR) : JW G D 0 [(0, .ref r0), (1, .int v1)] [] [(r0, .inr (1, [.int rCells, .int rSigns, .int rHour, .int rStops, .int rWaste, .int rDone, .int rBridged, .ref rKindA, .ref rRoomA, .ref rChargeA, .ref rLeakA, .ref rPlanA])), (rKindA, .inl (D.1 7, 5, .inl rKind)), (rRoomA, .inl (D.1 7, 5, .inl rRoom)), (rChargeA, .inl (D.1 7, 5, .inl rCharge)), (rLeakA, .inl (D.1 7, 5, .inl rLeak)), (rPlanA, .inl (D.1 7, 16, .inl rPlan))] := by
  unfold f_X1_doneBy at hf
  refine j_iload_n (pc := 0) C 1 rfl dX1_doneBy_0 ?_
  refine j_if_ge (pc := 1) 16 C hf (by decide) dX1_doneBy_1 (fun hf => ?_) (fun hf => ?_)
  · refine j_iconst (pc := 16) 0 C (by decide) dX1_doneBy_16 ?_
    obtain rfl := si1 hf
    exact j_iret (pc := 17) C dX1_doneBy_17
  · refine j_aload_n (pc := 4) C 0 rfl dX1_doneBy_4 ?_
    refine j_get (pc := 5) 0 1 0 C iw_X1_doneBy_X1 rfl rfl (by decide) fl_X1_doneBy_31 rfl rfl dX1_doneBy_5 ?_
    refine j_if_le (pc := 8) 16 C hf (by decide) dX1_doneBy_8 (fun hf => ?_) (fun hf => ?_)
    · refine j_iconst (pc := 16) 0 C (by decide) dX1_doneBy_16 ?_
      obtain rfl := si1 hf
      exact j_iret (pc := 17) C dX1_doneBy_17
    · refine j_iload_n (pc := 11) C 1 rfl dX1_doneBy_11 ?_
      refine j_ineg (pc := 12) C dX1_doneBy_12 ?_
      refine j_goto (pc := 13) 17 C (by decide) dX1_doneBy_13 ?_
      obtain rfl := si1 hf
      exact j_iret (pc := 17) C dX1_doneBy_17
theorem k_X1_doneBy : CK yX1_doneBy wsX1_doneBy cX1_doneBy 2 (some .int) 1 := ⟨rfl, by decide +kernel⟩
theorem c_X1_doneBy (D : va_G) (r0 rKindA rRoomA rChargeA rLeakA rPlanA : Nat) (v1 : Int32) (rCells : Int32) (rSigns : Int32) (rHour : Int32) (rStops : Int32) (rWaste : Int32) (rDone : Int32) (rBridged : Int32) (rKind : Nat → Int32) (rRoom : Nat → Int32) (rCharge : Nat → Int32) (rLeak : Nat → Int32) (rPlan : Nat → Int32) (oR : Int32) (hf : f_X1_doneBy v1 rCells = some oR) : ∀ l, MW l yX1_doneBy wsX1_doneBy ({ frames := 0, cells := 0, slots := 0, locals := 0 } : Room) D [.ref r0, .int v1] [(r0, .inr (1, [.int rCells, .int rSigns, .int rHour, .int rStops, .int rWaste, .int rDone, .int rBridged, .ref rKindA, .ref rRoomA, .ref rChargeA, .ref rLeakA, .ref rPlanA])), (rKindA, .inl (D.1 7, 5, .inl rKind)), (rRoomA, .inl (D.1 7, 5, .inl rRoom)), (rChargeA, .inl (D.1 7, 5, .inl rCharge)), (rLeakA, .inl (D.1 7, 5, .inl rLeak)), (rPlanA, .inl (D.1 7, 16, .inl rPlan))] (some (.int oR)) [(r0, .inr (1, [.int rCells, .int rSigns, .int rHour, .int rStops, .int rWaste, .int rDone, .int rBridged, .ref rKindA, .ref rRoomA, .ref rChargeA, .ref rLeakA, .ref rPlanA])), (rKindA, .inl (D.1 7, 5, .inl rKind)), (rRoomA, .inl (D.1 7, 5, .inl rRoom)), (rChargeA, .inl (D.1 7, 5, .inl rCharge)), (rLeakA, .inl (D.1 7, 5, .inl rLeak)), (rPlanA, .inl (D.1 7, 16, .inl rPlan))] := j_met (cc := cX1_doneBy) (nl := 2) (rt := (some .int)) (own := RX1) (lv := [(0, .ref r0), (1, .int v1)]) (by decide +kernel) rfl rfl rfl (Nat.le_of_ble_eq_true rfl) (fun G C => t_X1_doneBy_0 C hf)

-- X1_stoppedBySending
theorem fl_X1_stoppedBySending_31 : Cond.fieldLink RX1 31 "CellsInRow$Row" "cells" "I" ∈ wsX1_stoppedBySending := by decide +kernel
theorem iw_X1_stoppedBySending_X1 : ∀ w ∈ wsX10, w ∈ wsX1_stoppedBySending := by decide +kernel
theorem fl_X1_stoppedBySending_46 : Cond.fieldLink RX1 46 "CellsInRow$Row" "done" "I" ∈ wsX1_stoppedBySending := by decide +kernel
theorem mm_X1_stoppedBySending_min : Cond.methodLink RX1 63 Lib.Math.min.name ∈ wsX1_stoppedBySending ∧ Cond.static Lib.Math.min.name ∈ wsX1_stoppedBySending ∧ Cond.initialized "java/lang/Math" ∈ wsX1_stoppedBySending ∧ Cond.code Lib.Math.min.name Lib.Math.min.code 2 (some .int) ∈ wsX1_stoppedBySending := by decide +kernel
theorem fl_X1_stoppedBySending_9 : Cond.fieldLink RX1 9 "CellsInRow$Row" "bridged" "I" ∈ wsX1_stoppedBySending := by decide +kernel
theorem fl_X1_stoppedBySending_40 : Cond.fieldLink RX1 40 "CellsInRow$Row" "stops" "I" ∈ wsX1_stoppedBySending := by decide +kernel
set_option maxHeartbeats 4000000 in
set_option maxRecDepth 100000 in
theorem t_X1_stoppedBySending_57 {G : jX} {D : va_G} {r0 rKindA rRoomA rChargeA rLeakA rPlanA : Nat} {v1 : Int32} {v2 : Int32} {rCells : Int32} {rSigns : Int32} {rHour : Int32} {rStops : Int32} {rWaste : Int32} {rDone : Int32} {rBridged : Int32} {rKind : Nat → Int32} {rRoom : Nat → Int32} {rCharge : Nat → Int32} {rLeak : Nat → Int32} {rPlan : Nat → Int32} {K28 : Int32 → Int32 → (Nat → Int32) → Option (Int32 × Int32 × Int32 × Int32 × (Nat → Int32))} {oR : Int32} {oRStops : Int32} {oRWaste : Int32} {oRDone : Int32} {oRCharge : Nat → Int32} (C : KC G D cX1_stoppedBySending RX1 wsX1_stoppedBySending ({ frames := 2, cells := 0, slots := 0, locals := 47 } : Room) 3 (some .boolean) (some (.int oR)) [(r0, .inr (1, [.int rCells, .int rSigns, .int rHour, .int oRStops, .int oRWaste, .int oRDone, .int rBridged, .ref rKindA, .ref rRoomA, .ref rChargeA, .ref rLeakA, .ref rPlanA])), (rKindA, .inl (D.1 7, 5, .inl rKind)), (rRoomA, .inl (D.1 7, 5, .inl rRoom)), (rChargeA, .inl (D.1 7, 5, .inl oRCharge)), (rLeakA, .inl (D.1 7, 5, .inl rLeak)), (rPlanA, .inl (D.1 7, 16, .inl rPlan))]) (hK28 : ∀ (v2x : Int32) (rWastex : Int32) (rChargex : Nat → Int32), K28 v2x rWastex rChargex = some (oR, oRStops, oRWaste, oRDone, oRCharge) → JW G D 28 [(0, .ref r0), (1, .int v1), (2, .int v2x)] [] [(r0, .inr (1, [.int rCells, .int rSigns, .int rHour, .int rStops, .int rWastex, .int rDone, .int rBridged, .ref rKindA, .ref rRoomA, .ref rChargeA, .ref rLeakA, .ref rPlanA])), (rKindA, .inl (D.1 7, 5, .inl rKind)), (rRoomA, .inl (D.1 7, 5, .inl rRoom)), (rChargeA, .inl (D.1 7, 5, .inl rChargex)), (rLeakA, .inl (D.1 7, 5, .inl rLeak)), (rPlanA, .inl (D.1 7, 16, .inl rPlan))]) (hf : f_X1_stoppedBySending_57 K28 v1 v2 rCells rStops rWaste rDone rBridged rKind rRoom rCharge = some (oR, oRStops, oRWaste, oRDone, oRCharge)) : JW G D 57 [(0, .ref r0), (1, .int v1), (2, .int v2)] [] [(r0, .inr (1, [.int rCells, .int rSigns, .int rHour, .int rStops, .int rWaste, .int rDone, .int rBridged, .ref rKindA, .ref rRoomA, .ref rChargeA, .ref rLeakA, .ref rPlanA])), (rKindA, .inl (D.1 7, 5, .inl rKind)), (rRoomA, .inl (D.1 7, 5, .inl rRoom)), (rChargeA, .inl (D.1 7, 5, .inl rCharge)), (rLeakA, .inl (D.1 7, 5, .inl rLeak)), (rPlanA, .inl (D.1 7, 16, .inl rPlan))] := by
  unfold f_X1_stoppedBySending_57 at hf
  refine j_iload_n (pc := 57) C 2 rfl dX1_stoppedBySending_57 ?_
  refine j_aload_n (pc := 58) C 0 rfl dX1_stoppedBySending_58 ?_
  refine j_get (pc := 59) 0 1 6 C iw_X1_stoppedBySending_X1 rfl rfl (by decide) fl_X1_stoppedBySending_9 rfl rfl dX1_stoppedBySending_59 ?_
  refine j_icmp_eq (pc := 62) 76 C hf (by decide) dX1_stoppedBySending_62 (fun hf => ?_) (fun hf => ?_)
  · refine j_iinc (pc := 76) (v2 + 1) 2 2 [(0, .ref r0), (1, .int v1), (2, .int (v2 + 1))] [1, 2, 0] C rfl (by rfl) (by decide) rfl dX1_stoppedBySending_76 ?_
    refine j_goto (pc := 79) 28 C (by decide) dX1_stoppedBySending_79 ?_
    exact hK28 _ _ _ hf
  · refine j_iload_n (pc := 65) C 1 rfl dX1_stoppedBySending_65 ?_
    refine j_if_ge (pc := 66) 76 C hf (by decide) dX1_stoppedBySending_66 (fun hf => ?_) (fun hf => ?_)
    · refine j_iinc (pc := 76) (v2 + 1) 2 2 [(0, .ref r0), (1, .int v1), (2, .int (v2 + 1))] [1, 2, 0] C rfl (by rfl) (by decide) rfl dX1_stoppedBySending_76 ?_
      refine j_goto (pc := 79) 28 C (by decide) dX1_stoppedBySending_79 ?_
      exact hK28 _ _ _ hf
    · refine j_aload_n (pc := 69) C 0 rfl dX1_stoppedBySending_69 ?_
      refine j_iload_n (pc := 70) C 2 rfl dX1_stoppedBySending_70 ?_
      refine j_iload_n (pc := 71) C 1 rfl dX1_stoppedBySending_71 ?_
      refine j_ineg (pc := 72) C dX1_stoppedBySending_72 ?_
      obtain ⟨rCharge_3, hu, hf⟩ := ob1_some hf
      refine j_callV (pc := 73) (N := 6) (qr := 0) (ci := 1) [.int v2, .int (-v1)] [] [.int (-v1), .int v2, .ref r0] [] [(r0, .inr (1, [.int rCells, .int rSigns, .int rHour, .int rStops, .int rWaste, .int rDone, .int rBridged, .ref rKindA, .ref rRoomA, .ref rChargeA, .ref rLeakA, .ref rPlanA])), (rKindA, .inl (D.1 7, 5, .inl rKind)), (rRoomA, .inl (D.1 7, 5, .inl rRoom)), (rChargeA, .inl (D.1 7, 5, .inl rCharge_3)), (rLeakA, .inl (D.1 7, 5, .inl rLeak)), (rPlanA, .inl (D.1 7, 16, .inl rPlan))] [] [r0, rKindA, rRoomA, rChargeA, rLeakA, rPlanA] [0, 1, 2, 3, 4, 5] [] C (c_X1_giveFrom D r0 rKindA rRoomA rChargeA rLeakA rPlanA v2 (-v1) rCells rSigns rHour rStops rWaste rDone rBridged rKind rRoom rCharge rLeak rPlan rCharge_3 hu) k_X1_giveFrom gX1_stoppedBySending_X1_giveFrom ⟨rfl, rfl⟩ ⟨Nat.le_of_ble_eq_true rfl, Nat.le_of_ble_eq_true rfl⟩ rfl rfl rfl rfl rfl rfl (Nat.le_of_ble_eq_true rfl) rfl rfl rfl rfl (by decide) (by decide) (by decide) rfl rfl rfl dX1_stoppedBySending_73 ?_
      refine j_iinc (pc := 76) (v2 + 1) 2 2 [(0, .ref r0), (1, .int v1), (2, .int (v2 + 1))] [1, 2, 0] C rfl (by rfl) (by decide) rfl dX1_stoppedBySending_76 ?_
      refine j_goto (pc := 79) 28 C (by decide) dX1_stoppedBySending_79 ?_
      exact hK28 _ _ _ hf
set_option maxHeartbeats 4000000 in
set_option maxRecDepth 100000 in
theorem t_X1_stoppedBySending_28 {G : jX} {D : va_G} {r0 rKindA rRoomA rChargeA rLeakA rPlanA : Nat} {v1 : Int32} {rCells : Int32} {rSigns : Int32} {rHour : Int32} {rStops : Int32} {rDone : Int32} {rBridged : Int32} {rKind : Nat → Int32} {rRoom : Nat → Int32} {rLeak : Nat → Int32} {rPlan : Nat → Int32} {oR : Int32} {oRStops : Int32} {oRWaste : Int32} {oRDone : Int32} {oRCharge : Nat → Int32} (C : KC G D cX1_stoppedBySending RX1 wsX1_stoppedBySending ({ frames := 2, cells := 0, slots := 0, locals := 47 } : Room) 3 (some .boolean) (some (.int oR)) [(r0, .inr (1, [.int rCells, .int rSigns, .int rHour, .int oRStops, .int oRWaste, .int oRDone, .int rBridged, .ref rKindA, .ref rRoomA, .ref rChargeA, .ref rLeakA, .ref rPlanA])), (rKindA, .inl (D.1 7, 5, .inl rKind)), (rRoomA, .inl (D.1 7, 5, .inl rRoom)), (rChargeA, .inl (D.1 7, 5, .inl oRCharge)), (rLeakA, .inl (D.1 7, 5, .inl rLeak)), (rPlanA, .inl (D.1 7, 16, .inl rPlan))]) : ∀ (n : Nat) (v2 : Int32) (rWaste : Int32) (rCharge : Nat → Int32), f_X1_stoppedBySending_28 v1 rCells rStops rDone rBridged rKind rRoom n v2 rWaste rCharge = some (oR, oRStops, oRWaste, oRDone, oRCharge) → JW G D 28 [(0, .ref r0), (1, .int v1), (2, .int v2)] [] [(r0, .inr (1, [.int rCells, .int rSigns, .int rHour, .int rStops, .int rWaste, .int rDone, .int rBridged, .ref rKindA, .ref rRoomA, .ref rChargeA, .ref rLeakA, .ref rPlanA])), (rKindA, .inl (D.1 7, 5, .inl rKind)), (rRoomA, .inl (D.1 7, 5, .inl rRoom)), (rChargeA, .inl (D.1 7, 5, .inl rCharge)), (rLeakA, .inl (D.1 7, 5, .inl rLeak)), (rPlanA, .inl (D.1 7, 16, .inl rPlan))] := by
  intro n
  induction n with
  | zero => intro _ _ _ hf; rw [f_X1_stoppedBySending_28] at hf; cases hf
  | succ n ih =>
    intro v2 rWaste rCharge hf
    rw [f_X1_stoppedBySending_28] at hf
    refine j_iload_n (pc := 28) C 2 rfl dX1_stoppedBySending_28 ?_
    refine j_aload_n (pc := 29) C 0 rfl dX1_stoppedBySending_29 ?_
    refine j_get (pc := 30) 0 1 0 C iw_X1_stoppedBySending_X1 rfl rfl (by decide) fl_X1_stoppedBySending_31 rfl rfl dX1_stoppedBySending_30 ?_
    refine j_icmp_ge (pc := 33) 82 C hf (by decide) dX1_stoppedBySending_33 (fun hf => ?_) (fun hf => ?_)
    · refine j_aload_n (pc := 82) C 0 rfl dX1_stoppedBySending_82 ?_
      refine j_sipush (pc := 83) 9999 C (by decide) dX1_stoppedBySending_83 ?_
      refine j_aload_n (pc := 86) C 0 rfl dX1_stoppedBySending_86 ?_
      refine j_get (pc := 87) 0 1 5 C iw_X1_stoppedBySending_X1 rfl rfl (by decide) fl_X1_stoppedBySending_46 rfl rfl dX1_stoppedBySending_87 ?_
      refine j_aload_n (pc := 90) C 0 rfl dX1_stoppedBySending_90 ?_
      refine j_iload_n (pc := 91) C 1 rfl dX1_stoppedBySending_91 ?_
      obtain ⟨a_2, hu, hf⟩ := ob1_some hf
      refine j_callV (pc := 92) (N := 6) (qr := 0) (ci := 1) [.int v1] [.int rDone, .int 9999, .ref r0] [.int v1, .ref r0, .int rDone, .int 9999, .ref r0] [.int a_2, .int rDone, .int 9999, .ref r0] [(r0, .inr (1, [.int rCells, .int rSigns, .int rHour, .int rStops, .int rWaste, .int rDone, .int rBridged, .ref rKindA, .ref rRoomA, .ref rChargeA, .ref rLeakA, .ref rPlanA])), (rKindA, .inl (D.1 7, 5, .inl rKind)), (rRoomA, .inl (D.1 7, 5, .inl rRoom)), (rChargeA, .inl (D.1 7, 5, .inl rCharge)), (rLeakA, .inl (D.1 7, 5, .inl rLeak)), (rPlanA, .inl (D.1 7, 16, .inl rPlan))] [] [r0, rKindA, rRoomA, rChargeA, rLeakA, rPlanA] [0, 1, 2, 3, 4, 5] [] C (c_X1_doneBy D r0 rKindA rRoomA rChargeA rLeakA rPlanA v1 rCells rSigns rHour rStops rWaste rDone rBridged rKind rRoom rCharge rLeak rPlan a_2 hu) k_X1_doneBy gX1_stoppedBySending_X1_doneBy ⟨rfl, rfl⟩ ⟨Nat.le_of_ble_eq_true rfl, Nat.le_of_ble_eq_true rfl⟩ rfl rfl rfl rfl rfl rfl (Nat.le_of_ble_eq_true rfl) rfl rfl rfl rfl (by decide) (by decide) (by decide) rfl rfl rfl dX1_stoppedBySending_92 ?_
      refine j_iadd (pc := 95) C dX1_stoppedBySending_95 ?_
      refine j_mmin (pc := 96) C mm_X1_stoppedBySending_min.1 mm_X1_stoppedBySending_min.2.1 mm_X1_stoppedBySending_min.2.2.1 mm_X1_stoppedBySending_min.2.2.2 (by decide) (Nat.le_of_ble_eq_true rfl) dX1_stoppedBySending_96 ?_
      refine j_put (pc := 99) (ty := .int) 0 1 5 [(r0, .inr (1, [.int rCells, .int rSigns, .int rHour, .int rStops, .int rWaste, .int (if (rDone + a_2) < 9999 then (rDone + a_2) else 9999), .int rBridged, .ref rKindA, .ref rRoomA, .ref rChargeA, .ref rLeakA, .ref rPlanA])), (rKindA, .inl (D.1 7, 5, .inl rKind)), (rRoomA, .inl (D.1 7, 5, .inl rRoom)), (rChargeA, .inl (D.1 7, 5, .inl rCharge)), (rLeakA, .inl (D.1 7, 5, .inl rLeak)), (rPlanA, .inl (D.1 7, 16, .inl rPlan))] C iw_X1_stoppedBySending_X1 tyX1 tyX1_ok nmX1 rfl rfl (by decide) fl_X1_stoppedBySending_46 rfl rfl rfl rfl rfl (Nat.le_of_ble_eq_true rfl) rfl dX1_stoppedBySending_99 ?_
      refine j_iconst (pc := 102) 0 C (by decide) dX1_stoppedBySending_102 ?_
      obtain ⟨rfl, rfl, rfl, rfl, rfl⟩ := si5 hf
      exact j_zret (pc := 103) C (by decide) dX1_stoppedBySending_103
    · refine j_iload_n (pc := 36) C 2 rfl dX1_stoppedBySending_36 ?_
      refine j_aload_n (pc := 37) C 0 rfl dX1_stoppedBySending_37 ?_
      refine j_get (pc := 38) 0 1 6 C iw_X1_stoppedBySending_X1 rfl rfl (by decide) fl_X1_stoppedBySending_9 rfl rfl dX1_stoppedBySending_38 ?_
      refine j_icmp_eq (pc := 41) 57 C hf (by decide) dX1_stoppedBySending_41 (fun hf => ?_) (fun hf => ?_)
      · exact t_X1_stoppedBySending_57 C (fun _ _ _ h => ih _ _ _ h) hf
      · refine j_iload_n (pc := 44) C 1 rfl dX1_stoppedBySending_44 ?_
        refine j_if_le (pc := 45) 57 C hf (by decide) dX1_stoppedBySending_45 (fun hf => ?_) (fun hf => ?_)
        · exact t_X1_stoppedBySending_57 C (fun _ _ _ h => ih _ _ _ h) hf
        · refine j_aload_n (pc := 48) C 0 rfl dX1_stoppedBySending_48 ?_
          refine j_iload_n (pc := 49) C 2 rfl dX1_stoppedBySending_49 ?_
          refine j_iload_n (pc := 50) C 1 rfl dX1_stoppedBySending_50 ?_
          obtain ⟨rWaste_4, rCharge_5, hu, hf⟩ := ob2_some hf
          refine j_callV (pc := 51) (N := 6) (qr := 0) (ci := 1) [.int v2, .int v1] [] [.int v1, .int v2, .ref r0] [] [(r0, .inr (1, [.int rCells, .int rSigns, .int rHour, .int rStops, .int rWaste_4, .int rDone, .int rBridged, .ref rKindA, .ref rRoomA, .ref rChargeA, .ref rLeakA, .ref rPlanA])), (rKindA, .inl (D.1 7, 5, .inl rKind)), (rRoomA, .inl (D.1 7, 5, .inl rRoom)), (rChargeA, .inl (D.1 7, 5, .inl rCharge_5)), (rLeakA, .inl (D.1 7, 5, .inl rLeak)), (rPlanA, .inl (D.1 7, 16, .inl rPlan))] [] [r0, rKindA, rRoomA, rChargeA, rLeakA, rPlanA] [0, 1, 2, 3, 4, 5] [] C (c_X1_takeInto D r0 rKindA rRoomA rChargeA rLeakA rPlanA v2 v1 rCells rSigns rHour rStops rWaste rDone rBridged rKind rRoom rCharge rLeak rPlan rWaste_4 rCharge_5 hu) k_X1_takeInto gX1_stoppedBySending_X1_takeInto ⟨rfl, rfl⟩ ⟨Nat.le_of_ble_eq_true rfl, Nat.le_of_ble_eq_true rfl⟩ rfl rfl rfl rfl rfl rfl (Nat.le_of_ble_eq_true rfl) rfl rfl rfl rfl (by decide) (by decide) (by decide) rfl rfl rfl dX1_stoppedBySending_51 ?_
          refine j_goto (pc := 54) 76 C (by decide) dX1_stoppedBySending_54 ?_
          refine j_iinc (pc := 76) (v2 + 1) 2 2 [(0, .ref r0), (1, .int v1), (2, .int (v2 + 1))] [1, 2, 0] C rfl (by rfl) (by decide) rfl dX1_stoppedBySending_76 ?_
          refine j_goto (pc := 79) 28 C (by decide) dX1_stoppedBySending_79 ?_
          exact ih _ _ _ hf
set_option maxHeartbeats 4000000 in
set_option maxRecDepth 100000 in
theorem t_X1_stoppedBySending_0 {G : jX} {D : va_G} {r0 rKindA rRoomA rChargeA rLeakA rPlanA : Nat} {v1 : Int32} {rCells : Int32} {rSigns : Int32} {rHour : Int32} {rStops : Int32} {rWaste : Int32} {rDone : Int32} {rBridged : Int32} {rKind : Nat → Int32} {rRoom : Nat → Int32} {rCharge : Nat → Int32} {rLeak : Nat → Int32} {rPlan : Nat → Int32} {oR : Int32} {oRStops : Int32} {oRWaste : Int32} {oRDone : Int32} {oRCharge : Nat → Int32} (C : KC G D cX1_stoppedBySending RX1 wsX1_stoppedBySending ({ frames := 2, cells := 0, slots := 0, locals := 47 } : Room) 3 (some .boolean) (some (.int oR)) [(r0, .inr (1, [.int rCells, .int rSigns, .int rHour, .int oRStops, .int oRWaste, .int oRDone, .int rBridged, .ref rKindA, .ref rRoomA, .ref rChargeA, .ref rLeakA, .ref rPlanA])), (rKindA, .inl (D.1 7, 5, .inl rKind)), (rRoomA, .inl (D.1 7, 5, .inl rRoom)), (rChargeA, .inl (D.1 7, 5, .inl oRCharge)), (rLeakA, .inl (D.1 7, 5, .inl rLeak)), (rPlanA, .inl (D.1 7, 16, .inl rPlan))]) (hf : f_X1_stoppedBySending v1 rCells rStops rWaste rDone rBridged rKind rRoom rCharge = some (oR, oRStops, oRWaste, oRDone, oRCharge)) : JW G D 0 [(0, .ref r0), (1, .int v1)] [] [(r0, .inr (1, [.int rCells, .int rSigns, .int rHour, .int rStops, .int rWaste, .int rDone, .int rBridged, .ref rKindA, .ref rRoomA, .ref rChargeA, .ref rLeakA, .ref rPlanA])), (rKindA, .inl (D.1 7, 5, .inl rKind)), (rRoomA, .inl (D.1 7, 5, .inl rRoom)), (rChargeA, .inl (D.1 7, 5, .inl rCharge)), (rLeakA, .inl (D.1 7, 5, .inl rLeak)), (rPlanA, .inl (D.1 7, 16, .inl rPlan))] := by
  unfold f_X1_stoppedBySending at hf
  refine j_aload_n (pc := 0) C 0 rfl dX1_stoppedBySending_0 ?_
  refine j_iload_n (pc := 1) C 1 rfl dX1_stoppedBySending_1 ?_
  obtain ⟨a_1, hu, hf⟩ := ob1_some hf
  refine j_callV (pc := 2) (N := 6) (qr := 0) (ci := 1) [.int v1] [] [.int v1, .ref r0] [.int a_1] [(r0, .inr (1, [.int rCells, .int rSigns, .int rHour, .int rStops, .int rWaste, .int rDone, .int rBridged, .ref rKindA, .ref rRoomA, .ref rChargeA, .ref rLeakA, .ref rPlanA])), (rKindA, .inl (D.1 7, 5, .inl rKind)), (rRoomA, .inl (D.1 7, 5, .inl rRoom)), (rChargeA, .inl (D.1 7, 5, .inl rCharge)), (rLeakA, .inl (D.1 7, 5, .inl rLeak)), (rPlanA, .inl (D.1 7, 16, .inl rPlan))] [] [r0, rKindA, rRoomA, rChargeA, rLeakA, rPlanA] [0, 1, 2, 3, 4, 5] [] C (c_X1_stopsBy D r0 rKindA rRoomA rChargeA rLeakA rPlanA v1 rCells rSigns rHour rStops rWaste rDone rBridged rKind rRoom rCharge rLeak rPlan a_1 hu) k_X1_stopsBy gX1_stoppedBySending_X1_stopsBy ⟨rfl, rfl⟩ ⟨Nat.le_of_ble_eq_true rfl, Nat.le_of_ble_eq_true rfl⟩ rfl rfl rfl rfl rfl rfl (Nat.le_of_ble_eq_true rfl) rfl rfl rfl rfl (by decide) (by decide) (by decide) rfl rfl rfl dX1_stoppedBySending_2 ?_
  refine j_if_eq (pc := 5) 26 C hf (by decide) dX1_stoppedBySending_5 (fun hf => ?_) (fun hf => ?_)
  · refine j_iconst (pc := 26) 0 C (by decide) dX1_stoppedBySending_26 ?_
    refine j_istore_n (pc := 27) 2 [(0, .ref r0), (1, .int v1), (2, .int 0)] [1, 2, 0] C rfl (by decide) rfl dX1_stoppedBySending_27 ?_
    exact t_X1_stoppedBySending_28 C 1000 _ _ _ hf
  · refine j_aload_n (pc := 8) C 0 rfl dX1_stoppedBySending_8 ?_
    refine j_sipush (pc := 9) 9999 C (by decide) dX1_stoppedBySending_9 ?_
    refine j_aload_n (pc := 12) C 0 rfl dX1_stoppedBySending_12 ?_
    refine j_get (pc := 13) 0 1 3 C iw_X1_stoppedBySending_X1 rfl rfl (by decide) fl_X1_stoppedBySending_40 rfl rfl dX1_stoppedBySending_13 ?_
    refine j_iconst (pc := 16) 1 C (by decide) dX1_stoppedBySending_16 ?_
    refine j_iadd (pc := 17) C dX1_stoppedBySending_17 ?_
    refine j_mmin (pc := 18) C mm_X1_stoppedBySending_min.1 mm_X1_stoppedBySending_min.2.1 mm_X1_stoppedBySending_min.2.2.1 mm_X1_stoppedBySending_min.2.2.2 (by decide) (Nat.le_of_ble_eq_true rfl) dX1_stoppedBySending_18 ?_
    refine j_put (pc := 21) (ty := .int) 0 1 3 [(r0, .inr (1, [.int rCells, .int rSigns, .int rHour, .int (if (rStops + 1) < 9999 then (rStops + 1) else 9999), .int rWaste, .int rDone, .int rBridged, .ref rKindA, .ref rRoomA, .ref rChargeA, .ref rLeakA, .ref rPlanA])), (rKindA, .inl (D.1 7, 5, .inl rKind)), (rRoomA, .inl (D.1 7, 5, .inl rRoom)), (rChargeA, .inl (D.1 7, 5, .inl rCharge)), (rLeakA, .inl (D.1 7, 5, .inl rLeak)), (rPlanA, .inl (D.1 7, 16, .inl rPlan))] C iw_X1_stoppedBySending_X1 tyX1 tyX1_ok nmX1 rfl rfl (by decide) fl_X1_stoppedBySending_40 rfl rfl rfl rfl rfl (Nat.le_of_ble_eq_true rfl) rfl dX1_stoppedBySending_21 ?_
    refine j_iconst (pc := 24) 1 C (by decide) dX1_stoppedBySending_24 ?_
    obtain ⟨rfl, rfl, rfl, rfl, rfl⟩ := si5 hf
    exact j_zret (pc := 25) C (by decide) dX1_stoppedBySending_25
theorem k_X1_stoppedBySending : CK yX1_stoppedBySending wsX1_stoppedBySending cX1_stoppedBySending 3 (some .boolean) 1 := ⟨rfl, by decide +kernel⟩
theorem c_X1_stoppedBySending (D : va_G) (r0 rKindA rRoomA rChargeA rLeakA rPlanA : Nat) (v1 : Int32) (rCells : Int32) (rSigns : Int32) (rHour : Int32) (rStops : Int32) (rWaste : Int32) (rDone : Int32) (rBridged : Int32) (rKind : Nat → Int32) (rRoom : Nat → Int32) (rCharge : Nat → Int32) (rLeak : Nat → Int32) (rPlan : Nat → Int32) (oR : Int32) (oRStops : Int32) (oRWaste : Int32) (oRDone : Int32) (oRCharge : Nat → Int32) (hf : f_X1_stoppedBySending v1 rCells rStops rWaste rDone rBridged rKind rRoom rCharge = some (oR, oRStops, oRWaste, oRDone, oRCharge)) : ∀ l, MW l yX1_stoppedBySending wsX1_stoppedBySending ({ frames := 2, cells := 0, slots := 0, locals := 47 } : Room) D [.ref r0, .int v1] [(r0, .inr (1, [.int rCells, .int rSigns, .int rHour, .int rStops, .int rWaste, .int rDone, .int rBridged, .ref rKindA, .ref rRoomA, .ref rChargeA, .ref rLeakA, .ref rPlanA])), (rKindA, .inl (D.1 7, 5, .inl rKind)), (rRoomA, .inl (D.1 7, 5, .inl rRoom)), (rChargeA, .inl (D.1 7, 5, .inl rCharge)), (rLeakA, .inl (D.1 7, 5, .inl rLeak)), (rPlanA, .inl (D.1 7, 16, .inl rPlan))] (some (.int oR)) [(r0, .inr (1, [.int rCells, .int rSigns, .int rHour, .int oRStops, .int oRWaste, .int oRDone, .int rBridged, .ref rKindA, .ref rRoomA, .ref rChargeA, .ref rLeakA, .ref rPlanA])), (rKindA, .inl (D.1 7, 5, .inl rKind)), (rRoomA, .inl (D.1 7, 5, .inl rRoom)), (rChargeA, .inl (D.1 7, 5, .inl oRCharge)), (rLeakA, .inl (D.1 7, 5, .inl rLeak)), (rPlanA, .inl (D.1 7, 16, .inl rPlan))] := j_met (cc := cX1_stoppedBySending) (nl := 3) (rt := (some .boolean)) (own := RX1) (lv := [(0, .ref r0), (1, .int v1)]) (by decide +kernel) rfl rfl rfl (Nat.le_of_ble_eq_true rfl) (fun G C => t_X1_stoppedBySending_0 C hf)

