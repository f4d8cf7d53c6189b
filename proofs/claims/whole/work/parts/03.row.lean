-- X1_current
theorem fl_X1_current_34 : Cond.fieldLink RX1 34 "CellsInRow$Row" "signs" "I" ∈ wsX1_current := by decide +kernel
theorem iw_X1_current_X1 : ∀ w ∈ wsX10, w ∈ wsX1_current := by decide +kernel
theorem fl_X1_current_28 : Cond.fieldLink RX1 28 "CellsInRow$Row" "plan" "[I" ∈ wsX1_current := by decide +kernel
theorem fl_X1_current_37 : Cond.fieldLink RX1 37 "CellsInRow$Row" "hour" "I" ∈ wsX1_current := by decide +kernel
def f_X1_current (rSigns : Int32) (rHour : Int32) (rPlan : Nat → Int32) : Option (Int32) := (if rSigns ≤ 0 then some (0) else dz rSigns <| ck (rHour - rHour / rSigns * rSigns) 16 <| some ((rPlan (rHour - rHour / rSigns * rSigns).toNatClampNeg) - 9))
set_option maxHeartbeats 4000000 in
set_option maxRecDepth 100000 in
theorem t_X1_current_0 {G : jX} {D : va_G} {r0 rKindA rRoomA rChargeA rLeakA rPlanA : Nat} {rCells : Int32} {rSigns : Int32} {rHour : Int32} {rStops : Int32} {rWaste : Int32} {rDone : Int32} {rBridged : Int32} {rKind : Nat → Int32} {rRoom : Nat → Int32} {rCharge : Nat → Int32} {rLeak : Nat → Int32} {rPlan : Nat → Int32} {oR : Int32} (C : KC G D cX1_current RX1 wsX1_current ({ frames := 0, cells := 0, slots := 0, locals := 0 } : Room) 1 (some .int) (some (.int oR)) [(r0, .inr (1, [.int rCells, .int rSigns, .int rHour, .int rStops, .int rWaste, .int rDone, .int rBridged, .ref rKindA, .ref rRoomA, .ref rChargeA, .ref rLeakA, .ref rPlanA])), (rKindA, .inl (D.1 7, 5, .inl rKind)), (rRoomA, .inl (D.1 7, 5, .inl rRoom)), (rChargeA, .inl (D.1 7, 5, .inl rCharge)), (rLeakA, .inl (D.1 7, 5, .inl rLeak)), (rPlanA, .inl (D.1 7, 16, .inl rPlan))]) (hf : f_X1_current rSigns rHour rPlan = some oR) : JW G D 0 [(0, .ref r0)] [] [(r0, .inr (1, [.int rCells, .int rSigns, .int rHour, .int rStops, .int rWaste, .int rDone, .int rBridged, .ref rKindA, .ref rRoomA, .ref rChargeA, .ref rLeakA, .ref rPlanA])), (rKindA, .inl (D.1 7, 5, .inl rKind)), (rRoomA, .inl (D.1 7, 5, .inl rRoom)), (rChargeA, .inl (D.1 7, 5, .inl rCharge)), (rLeakA, .inl (D.1 7, 5, .inl rLeak)), (rPlanA, .inl (D.1 7, 16, .inl rPlan))] := by
  unfold f_X1_current at hf
  refine j_aload_n (pc := 0) C 0 rfl dX1_current_0 ?_
  refine j_get (pc := 1) 0 1 1 C iw_X1_current_X1 rfl rfl (by decide) fl_X1_current_34 rfl rfl dX1_current_1 ?_
  refine j_if_le (pc := 4) 27 C hf (by decide) dX1_current_4 (fun hf => ?_) (fun hf => ?_)
  · refine j_iconst (pc := 27) 0 C (by decide) dX1_current_27 ?_
    cases hf
    exact j_iret (pc := 28) C dX1_current_28
  · refine j_aload_n (pc := 7) C 0 rfl dX1_current_7 ?_
    refine j_get (pc := 8) 0 1 11 C iw_X1_current_X1 rfl rfl (by decide) fl_X1_current_28 rfl rfl dX1_current_8 ?_
    refine j_aload_n (pc := 11) C 0 rfl dX1_current_11 ?_
    refine j_get (pc := 12) 0 1 2 C iw_X1_current_X1 rfl rfl (by decide) fl_X1_current_37 rfl rfl dX1_current_12 ?_
    refine j_aload_n (pc := 15) C 0 rfl dX1_current_15 ?_
    refine j_get (pc := 16) 0 1 1 C iw_X1_current_X1 rfl rfl (by decide) fl_X1_current_34 rfl rfl dX1_current_16 ?_
    obtain ⟨hz, hf⟩ := dz_some hf
    refine j_irem (pc := 19) C hz dX1_current_19 ?_
    refine j_iald (pc := 20) 5 C rfl hf dX1_current_20 (fun hf => ?_)
    refine j_bipush (pc := 21) 9 C (by decide) dX1_current_21 ?_
    refine j_isub (pc := 23) C dX1_current_23 ?_
    refine j_goto (pc := 24) 28 C (by decide) dX1_current_24 ?_
    cases hf
    exact j_iret (pc := 28) C dX1_current_28
theorem k_X1_current : CK yX1_current wsX1_current cX1_current 1 (some .int) 0 := ⟨rfl, by decide +kernel⟩
theorem c_X1_current (D : va_G) (r0 rKindA rRoomA rChargeA rLeakA rPlanA : Nat) (rCells : Int32) (rSigns : Int32) (rHour : Int32) (rStops : Int32) (rWaste : Int32) (rDone : Int32) (rBridged : Int32) (rKind : Nat → Int32) (rRoom : Nat → Int32) (rCharge : Nat → Int32) (rLeak : Nat → Int32) (rPlan : Nat → Int32) (oR : Int32) (hf : f_X1_current rSigns rHour rPlan = some oR) : ∀ l, MW l yX1_current wsX1_current ({ frames := 0, cells := 0, slots := 0, locals := 0 } : Room) D [.ref r0] [(r0, .inr (1, [.int rCells, .int rSigns, .int rHour, .int rStops, .int rWaste, .int rDone, .int rBridged, .ref rKindA, .ref rRoomA, .ref rChargeA, .ref rLeakA, .ref rPlanA])), (rKindA, .inl (D.1 7, 5, .inl rKind)), (rRoomA, .inl (D.1 7, 5, .inl rRoom)), (rChargeA, .inl (D.1 7, 5, .inl rCharge)), (rLeakA, .inl (D.1 7, 5, .inl rLeak)), (rPlanA, .inl (D.1 7, 16, .inl rPlan))] (some (.int oR)) [(r0, .inr (1, [.int rCells, .int rSigns, .int rHour, .int rStops, .int rWaste, .int rDone, .int rBridged, .ref rKindA, .ref rRoomA, .ref rChargeA, .ref rLeakA, .ref rPlanA])), (rKindA, .inl (D.1 7, 5, .inl rKind)), (rRoomA, .inl (D.1 7, 5, .inl rRoom)), (rChargeA, .inl (D.1 7, 5, .inl rCharge)), (rLeakA, .inl (D.1 7, 5, .inl rLeak)), (rPlanA, .inl (D.1 7, 16, .inl rPlan))] := j_met (cc := cX1_current) (nl := 1) (rt := (some .int)) (own := RX1) (lv := [(0, .ref r0)]) (by decide +kernel) rfl rfl rfl (Nat.le_of_ble_eq_true rfl) (fun G C => t_X1_current_0 C hf)

-- X1_put
theorem fl_X1_put_19 : Cond.fieldLink RX1 19 "CellsInRow$Row" "room" "[I" ∈ wsX1_put := by decide +kernel
theorem iw_X1_put_X1 : ∀ w ∈ wsX10, w ∈ wsX1_put := by decide +kernel
theorem fl_X1_put_22 : Cond.fieldLink RX1 22 "CellsInRow$Row" "charge" "[I" ∈ wsX1_put := by decide +kernel
def f_X1_put_24 (v1 : Int32) (s0 : Int32) (rRoom : Nat → Int32) (rCharge : Nat → Int32) : Option (Int32 × (Nat → Int32)) := ck v1 5 <| ck v1 5 <| some (s0, upd rCharge v1.toNatClampNeg ((rCharge v1.toNatClampNeg) + s0))
set_option maxHeartbeats 4000000 in
set_option maxRecDepth 100000 in
theorem t_X1_put_24 {G : jX} {D : va_G} {r0 rKindA rRoomA rChargeA rLeakA rPlanA : Nat} {v1 : Int32} {s0 : Int32} {rCells : Int32} {rSigns : Int32} {rHour : Int32} {rStops : Int32} {rWaste : Int32} {rDone : Int32} {rBridged : Int32} {rKind : Nat → Int32} {rRoom : Nat → Int32} {rCharge : Nat → Int32} {rLeak : Nat → Int32} {rPlan : Nat → Int32} {oR : Int32} {oRCharge : Nat → Int32} (C : KC G D cX1_put RX1 wsX1_put ({ frames := 0, cells := 0, slots := 0, locals := 0 } : Room) 5 (some .int) (some (.int oR)) [(r0, .inr (1, [.int rCells, .int rSigns, .int rHour, .int rStops, .int rWaste, .int rDone, .int rBridged, .ref rKindA, .ref rRoomA, .ref rChargeA, .ref rLeakA, .ref rPlanA])), (rKindA, .inl (D.1 7, 5, .inl rKind)), (rRoomA, .inl (D.1 7, 5, .inl rRoom)), (rChargeA, .inl (D.1 7, 5, .inl oRCharge)), (rLeakA, .inl (D.1 7, 5, .inl rLeak)), (rPlanA, .inl (D.1 7, 16, .inl rPlan))]) (hf : f_X1_put_24 v1 s0 rRoom rCharge = some (oR, oRCharge)) : JW G D 24 [(0, .ref r0), (1, .int v1)] [.int s0] [(r0, .inr (1, [.int rCells, .int rSigns, .int rHour, .int rStops, .int rWaste, .int rDone, .int rBridged, .ref rKindA, .ref rRoomA, .ref rChargeA, .ref rLeakA, .ref rPlanA])), (rKindA, .inl (D.1 7, 5, .inl rKind)), (rRoomA, .inl (D.1 7, 5, .inl rRoom)), (rChargeA, .inl (D.1 7, 5, .inl rCharge)), (rLeakA, .inl (D.1 7, 5, .inl rLeak)), (rPlanA, .inl (D.1 7, 16, .inl rPlan))] := by
  unfold f_X1_put_24 at hf
  refine j_istore (pc := 24) 4 [(0, .ref r0), (1, .int v1), (4, .int s0)] [1, 2, 0] C (by decide) rfl dX1_put_24 ?_
  refine j_aload_n (pc := 26) C 0 rfl dX1_put_26 ?_
  refine j_get (pc := 27) 0 1 9 C iw_X1_put_X1 rfl rfl (by decide) fl_X1_put_22 rfl rfl dX1_put_27 ?_
  refine j_iload_n (pc := 30) C 1 rfl dX1_put_30 ?_
  refine j_dup2 (pc := 31) C rfl rfl dX1_put_31 ?_
  refine j_iald (pc := 32) 3 C rfl hf dX1_put_32 (fun hf => ?_)
  refine j_iload (pc := 33) C 2 rfl dX1_put_33 ?_
  refine j_iadd (pc := 35) C dX1_put_35 ?_
  refine j_iast (pc := 36) 3 [(r0, .inr (1, [.int rCells, .int rSigns, .int rHour, .int rStops, .int rWaste, .int rDone, .int rBridged, .ref rKindA, .ref rRoomA, .ref rChargeA, .ref rLeakA, .ref rPlanA])), (rKindA, .inl (D.1 7, 5, .inl rKind)), (rRoomA, .inl (D.1 7, 5, .inl rRoom)), (rChargeA, .inl (D.1 7, 5, .inl (upd rCharge v1.toNatClampNeg ((rCharge v1.toNatClampNeg) + s0)))), (rLeakA, .inl (D.1 7, 5, .inl rLeak)), (rPlanA, .inl (D.1 7, 16, .inl rPlan))] C rfl rfl hf dX1_put_36 (fun hf => ?_)
  refine j_iload (pc := 37) C 2 rfl dX1_put_37 ?_
  cases hf
  exact j_iret (pc := 39) C dX1_put_39
def f_X1_put (v1 : Int32) (v2 : Int32) (rRoom : Nat → Int32) (rCharge : Nat → Int32) : Option (Int32 × (Nat → Int32)) := ck v1 5 <| ck v1 5 <| bd ((rRoom v1.toNatClampNeg) - (rCharge v1.toNatClampNeg)) fun y_1 => (if y_1 ≤ v2 then f_X1_put_24 v1 y_1 rRoom rCharge else f_X1_put_24 v1 v2 rRoom rCharge)
set_option maxHeartbeats 4000000 in
set_option maxRecDepth 100000 in
theorem t_X1_put_0 {G : jX} {D : va_G} {r0 rKindA rRoomA rChargeA rLeakA rPlanA : Nat} {v1 : Int32} {v2 : Int32} {rCells : Int32} {rSigns : Int32} {rHour : Int32} {rStops : Int32} {rWaste : Int32} {rDone : Int32} {rBridged : Int32} {rKind : Nat → Int32} {rRoom : Nat → Int32} {rCharge : Nat → Int32} {rLeak : Nat → Int32} {rPlan : Nat → Int32} {oR : Int32} {oRCharge : Nat → Int32} (C : KC G D cX1_put RX1 wsX1_put ({ frames := 0, cells := 0, slots := 0, locals := 0 } : Room) 5 (some .int) (some (.int oR)) [(r0, .inr (1, [.int rCells, .int rSigns, .int rHour, .int rStops, .int rWaste, .int rDone, .int rBridged, .ref rKindA, .ref rRoomA, .ref rChargeA, .ref rLeakA, .ref rPlanA])), (rKindA, .inl (D.1 7, 5, .inl rKind)), (rRoomA, .inl (D.1 7, 5, .inl rRoom)), (rChargeA, .inl (D.1 7, 5, .inl oRCharge)), (rLeakA, .inl (D.1 7, 5, .inl rLeak)), (rPlanA, .inl (D.1 7, 16, .inl rPlan))]) (hf : f_X1_put v1 v2 rRoom rCharge = some (oR, oRCharge)) : JW G D 0 [(0, .ref r0), (1, .int v1), (2, .int v2)] [] [(r0, .inr (1, [.int rCells, .int rSigns, .int rHour, .int rStops, .int rWaste, .int rDone, .int rBridged, .ref rKindA, .ref rRoomA, .ref rChargeA, .ref rLeakA, .ref rPlanA])), (rKindA, .inl (D.1 7, 5, .inl rKind)), (rRoomA, .inl (D.1 7, 5, .inl rRoom)), (rChargeA, .inl (D.1 7, 5, .inl rCharge)), (rLeakA, .inl (D.1 7, 5, .inl rLeak)), (rPlanA, .inl (D.1 7, 16, .inl rPlan))] := by
  unfold f_X1_put at hf
  refine j_aload_n (pc := 0) C 0 rfl dX1_put_0 ?_
  refine j_get (pc := 1) 0 1 8 C iw_X1_put_X1 rfl rfl (by decide) fl_X1_put_19 rfl rfl dX1_put_1 ?_
  refine j_iload_n (pc := 4) C 1 rfl dX1_put_4 ?_
  refine j_iald (pc := 5) 2 C rfl hf dX1_put_5 (fun hf => ?_)
  refine j_aload_n (pc := 6) C 0 rfl dX1_put_6 ?_
  refine j_get (pc := 7) 0 1 9 C iw_X1_put_X1 rfl rfl (by decide) fl_X1_put_22 rfl rfl dX1_put_7 ?_
  refine j_iload_n (pc := 10) C 1 rfl dX1_put_10 ?_
  refine j_iald (pc := 11) 3 C rfl hf dX1_put_11 (fun hf => ?_)
  refine j_isub (pc := 12) C dX1_put_12 ?_
  refine j_bdi hf (fun y_1 hf => ?_)
  refine j_istore_n (pc := 13) 3 [(0, .ref r0), (1, .int v1), (2, .int v2), (3, .int y_1)] [1, 2, 3, 0] C rfl (by decide) rfl dX1_put_13 ?_
  refine j_iload_n (pc := 14) C 2 rfl dX1_put_14 ?_
  refine j_iload_n (pc := 15) C 3 rfl dX1_put_15 ?_
  refine j_icmp_ge (pc := 16) 23 C hf (by decide) dX1_put_16 (fun hf => ?_) (fun hf => ?_)
  · refine j_iload_n (pc := 23) C 3 rfl dX1_put_23 ?_
    refine j_lv [(0, .ref r0), (1, .int v1)] [0, 1] rfl ?_
    exact t_X1_put_24 C hf
  · refine j_iload_n (pc := 19) C 2 rfl dX1_put_19 ?_
    refine j_goto (pc := 20) 24 C (by decide) dX1_put_20 ?_
    refine j_lv [(0, .ref r0), (1, .int v1)] [0, 1] rfl ?_
    exact t_X1_put_24 C hf
theorem k_X1_put : CK yX1_put wsX1_put cX1_put 5 (some .int) 2 := ⟨rfl, by decide +kernel⟩
theorem c_X1_put (D : va_G) (r0 rKindA rRoomA rChargeA rLeakA rPlanA : Nat) (v1 : Int32) (v2 : Int32) (rCells : Int32) (rSigns : Int32) (rHour : Int32) (rStops : Int32) (rWaste : Int32) (rDone : Int32) (rBridged : Int32) (rKind : Nat → Int32) (rRoom : Nat → Int32) (rCharge : Nat → Int32) (rLeak : Nat → Int32) (rPlan : Nat → Int32) (oR : Int32) (oRCharge : Nat → Int32) (hf : f_X1_put v1 v2 rRoom rCharge = some (oR, oRCharge)) : ∀ l, MW l yX1_put wsX1_put ({ frames := 0, cells := 0, slots := 0, locals := 0 } : Room) D [.ref r0, .int v1, .int v2] [(r0, .inr (1, [.int rCells, .int rSigns, .int rHour, .int rStops, .int rWaste, .int rDone, .int rBridged, .ref rKindA, .ref rRoomA, .ref rChargeA, .ref rLeakA, .ref rPlanA])), (rKindA, .inl (D.1 7, 5, .inl rKind)), (rRoomA, .inl (D.1 7, 5, .inl rRoom)), (rChargeA, .inl (D.1 7, 5, .inl rCharge)), (rLeakA, .inl (D.1 7, 5, .inl rLeak)), (rPlanA, .inl (D.1 7, 16, .inl rPlan))] (some (.int oR)) [(r0, .inr (1, [.int rCells, .int rSigns, .int rHour, .int rStops, .int rWaste, .int rDone, .int rBridged, .ref rKindA, .ref rRoomA, .ref rChargeA, .ref rLeakA, .ref rPlanA])), (rKindA, .inl (D.1 7, 5, .inl rKind)), (rRoomA, .inl (D.1 7, 5, .inl rRoom)), (rChargeA, .inl (D.1 7, 5, .inl oRCharge)), (rLeakA, .inl (D.1 7, 5, .inl rLeak)), (rPlanA, .inl (D.1 7, 16, .inl rPlan))] := j_met (cc := cX1_put) (nl := 5) (rt := (some .int)) (own := RX1) (lv := [(0, .ref r0), (1, .int v1), (2, .int v2)]) (by decide +kernel) rfl rfl rfl (Nat.le_of_ble_eq_true rfl) (fun G C => t_X1_put_0 C hf)

-- X1_cellStopsBy
theorem fl_X1_cellStopsBy_15 : Cond.fieldLink RX1 15 "CellsInRow$Row" "kind" "[I" ∈ wsX1_cellStopsBy := by decide +kernel
theorem iw_X1_cellStopsBy_X1 : ∀ w ∈ wsX10, w ∈ wsX1_cellStopsBy := by decide +kernel
theorem fl_X1_cellStopsBy_22 : Cond.fieldLink RX1 22 "CellsInRow$Row" "charge" "[I" ∈ wsX1_cellStopsBy := by decide +kernel
theorem fl_X1_cellStopsBy_19 : Cond.fieldLink RX1 19 "CellsInRow$Row" "room" "[I" ∈ wsX1_cellStopsBy := by decide +kernel
def f_X1_cellStopsBy (v1 : Int32) (v2 : Int32) (rKind : Nat → Int32) (rRoom : Nat → Int32) (rCharge : Nat → Int32) : Option (Int32) := (if v2 ≤ 0 then (if 0 ≤ v2 then some (0) else ck v1 5 <| (if (rKind v1.toNatClampNeg) = 3 then some (0) else ck v1 5 <| (if (-v2) ≤ (rCharge v1.toNatClampNeg) then some (0) else some (1)))) else ck v1 5 <| (if (rKind v1.toNatClampNeg) = 0 then ck v1 5 <| ck v1 5 <| (if ((rCharge v1.toNatClampNeg) + v2) ≤ (rRoom v1.toNatClampNeg) then some (0) else some (1)) else some (0)))
set_option maxHeartbeats 4000000 in
set_option maxRecDepth 100000 in
theorem t_X1_cellStopsBy_0 {G : jX} {D : va_G} {r0 rKindA rRoomA rChargeA rLeakA rPlanA : Nat} {v1 : Int32} {v2 : Int32} {rCells : Int32} {rSigns : Int32} {rHour : Int32} {rStops : Int32} {rWaste : Int32} {rDone : Int32} {rBridged : Int32} {rKind : Nat → Int32} {rRoom : Nat → Int32} {rCharge : Nat → Int32} {rLeak : Nat → Int32} {rPlan : Nat → Int32} {oR : Int32} (C : KC G D cX1_cellStopsBy RX1 wsX1_cellStopsBy ({ frames := 0, cells := 0, slots := 0, locals := 0 } : Room) 3 (some .boolean) (some (.int oR)) [(r0, .inr (1, [.int rCells, .int rSigns, .int rHour, .int rStops, .int rWaste, .int rDone, .int rBridged, .ref rKindA, .ref rRoomA, .ref rChargeA, .ref rLeakA, .ref rPlanA])), (rKindA, .inl (D.1 7, 5, .inl rKind)), (rRoomA, .inl (D.1 7, 5, .inl rRoom)), (rChargeA, .inl (D.1 7, 5, .inl rCharge)), (rLeakA, .inl (D.1 7, 5, .inl rLeak)), (rPlanA, .inl (D.1 7, 16, .inl rPlan))]) (hf : f_X1_cellStopsBy v1 v2 rKind rRoom rCharge = some oR) : JW G D 0 [(0, .ref r0), (1, .int v1), (2, .int v2)] [] [(r0, .inr (1, [.int rCells, .int rSigns, .int rHour, .int rStops, .int rWaste, .int rDone, .int rBridged, .ref rKindA, .ref rRoomA, .ref rChargeA, .ref rLeakA, .ref rPlanA])), (rKindA, .inl (D.1 7, 5, .inl rKind)), (rRoomA, .inl (D.1 7, 5, .inl rRoom)), (rChargeA, .inl (D.1 7, 5, .inl rCharge)), (rLeakA, .inl (D.1 7, 5, .inl rLeak)), (rPlanA, .inl (D.1 7, 16, .inl rPlan))] := by
  unfold f_X1_cellStopsBy at hf
  refine j_iload_n (pc := 0) C 2 rfl dX1_cellStopsBy_0 ?_
  refine j_if_le (pc := 1) 36 C hf (by decide) dX1_cellStopsBy_1 (fun hf => ?_) (fun hf => ?_)
  · refine j_iload_n (pc := 36) C 2 rfl dX1_cellStopsBy_36 ?_
    refine j_if_ge (pc := 37) 65 C hf (by decide) dX1_cellStopsBy_37 (fun hf => ?_) (fun hf => ?_)
    · refine j_iconst (pc := 65) 0 C (by decide) dX1_cellStopsBy_65 ?_
      cases hf
      exact j_zret (pc := 66) C (by decide) dX1_cellStopsBy_66
    · refine j_aload_n (pc := 40) C 0 rfl dX1_cellStopsBy_40 ?_
      refine j_get (pc := 41) 0 1 7 C iw_X1_cellStopsBy_X1 rfl rfl (by decide) fl_X1_cellStopsBy_15 rfl rfl dX1_cellStopsBy_41 ?_
      refine j_iload_n (pc := 44) C 1 rfl dX1_cellStopsBy_44 ?_
      refine j_iald (pc := 45) 1 C rfl hf dX1_cellStopsBy_45 (fun hf => ?_)
      refine j_iconst (pc := 46) 3 C (by decide) dX1_cellStopsBy_46 ?_
      refine j_icmp_eq (pc := 47) 65 C hf (by decide) dX1_cellStopsBy_47 (fun hf => ?_) (fun hf => ?_)
      · refine j_iconst (pc := 65) 0 C (by decide) dX1_cellStopsBy_65 ?_
        cases hf
        exact j_zret (pc := 66) C (by decide) dX1_cellStopsBy_66
      · refine j_aload_n (pc := 50) C 0 rfl dX1_cellStopsBy_50 ?_
        refine j_get (pc := 51) 0 1 9 C iw_X1_cellStopsBy_X1 rfl rfl (by decide) fl_X1_cellStopsBy_22 rfl rfl dX1_cellStopsBy_51 ?_
        refine j_iload_n (pc := 54) C 1 rfl dX1_cellStopsBy_54 ?_
        refine j_iald (pc := 55) 3 C rfl hf dX1_cellStopsBy_55 (fun hf => ?_)
        refine j_iload_n (pc := 56) C 2 rfl dX1_cellStopsBy_56 ?_
        refine j_ineg (pc := 57) C dX1_cellStopsBy_57 ?_
        refine j_icmp_ge (pc := 58) 65 C hf (by decide) dX1_cellStopsBy_58 (fun hf => ?_) (fun hf => ?_)
        · refine j_iconst (pc := 65) 0 C (by decide) dX1_cellStopsBy_65 ?_
          cases hf
          exact j_zret (pc := 66) C (by decide) dX1_cellStopsBy_66
        · refine j_iconst (pc := 61) 1 C (by decide) dX1_cellStopsBy_61 ?_
          refine j_goto (pc := 62) 66 C (by decide) dX1_cellStopsBy_62 ?_
          cases hf
          exact j_zret (pc := 66) C (by decide) dX1_cellStopsBy_66
  · refine j_aload_n (pc := 4) C 0 rfl dX1_cellStopsBy_4 ?_
    refine j_get (pc := 5) 0 1 7 C iw_X1_cellStopsBy_X1 rfl rfl (by decide) fl_X1_cellStopsBy_15 rfl rfl dX1_cellStopsBy_5 ?_
    refine j_iload_n (pc := 8) C 1 rfl dX1_cellStopsBy_8 ?_
    refine j_iald (pc := 9) 1 C rfl hf dX1_cellStopsBy_9 (fun hf => ?_)
    refine j_if_ne (pc := 10) 34 C hf (by decide) dX1_cellStopsBy_10 (fun hf => ?_) (fun hf => ?_)
    · refine j_iconst (pc := 34) 0 C (by decide) dX1_cellStopsBy_34 ?_
      cases hf
      exact j_zret (pc := 35) C (by decide) dX1_cellStopsBy_35
    · refine j_aload_n (pc := 13) C 0 rfl dX1_cellStopsBy_13 ?_
      refine j_get (pc := 14) 0 1 9 C iw_X1_cellStopsBy_X1 rfl rfl (by decide) fl_X1_cellStopsBy_22 rfl rfl dX1_cellStopsBy_14 ?_
      refine j_iload_n (pc := 17) C 1 rfl dX1_cellStopsBy_17 ?_
      refine j_iald (pc := 18) 3 C rfl hf dX1_cellStopsBy_18 (fun hf => ?_)
      refine j_iload_n (pc := 19) C 2 rfl dX1_cellStopsBy_19 ?_
      refine j_iadd (pc := 20) C dX1_cellStopsBy_20 ?_
      refine j_aload_n (pc := 21) C 0 rfl dX1_cellStopsBy_21 ?_
      refine j_get (pc := 22) 0 1 8 C iw_X1_cellStopsBy_X1 rfl rfl (by decide) fl_X1_cellStopsBy_19 rfl rfl dX1_cellStopsBy_22 ?_
      refine j_iload_n (pc := 25) C 1 rfl dX1_cellStopsBy_25 ?_
      refine j_iald (pc := 26) 2 C rfl hf dX1_cellStopsBy_26 (fun hf => ?_)
      refine j_icmp_le (pc := 27) 34 C hf (by decide) dX1_cellStopsBy_27 (fun hf => ?_) (fun hf => ?_)
      · refine j_iconst (pc := 34) 0 C (by decide) dX1_cellStopsBy_34 ?_
        cases hf
        exact j_zret (pc := 35) C (by decide) dX1_cellStopsBy_35
      · refine j_iconst (pc := 30) 1 C (by decide) dX1_cellStopsBy_30 ?_
        refine j_goto (pc := 31) 35 C (by decide) dX1_cellStopsBy_31 ?_
        cases hf
        exact j_zret (pc := 35) C (by decide) dX1_cellStopsBy_35
theorem k_X1_cellStopsBy : CK yX1_cellStopsBy wsX1_cellStopsBy cX1_cellStopsBy 3 (some .boolean) 2 := ⟨rfl, by decide +kernel⟩
theorem c_X1_cellStopsBy (D : va_G) (r0 rKindA rRoomA rChargeA rLeakA rPlanA : Nat) (v1 : Int32) (v2 : Int32) (rCells : Int32) (rSigns : Int32) (rHour : Int32) (rStops : Int32) (rWaste : Int32) (rDone : Int32) (rBridged : Int32) (rKind : Nat → Int32) (rRoom : Nat → Int32) (rCharge : Nat → Int32) (rLeak : Nat → Int32) (rPlan : Nat → Int32) (oR : Int32) (hf : f_X1_cellStopsBy v1 v2 rKind rRoom rCharge = some oR) : ∀ l, MW l yX1_cellStopsBy wsX1_cellStopsBy ({ frames := 0, cells := 0, slots := 0, locals := 0 } : Room) D [.ref r0, .int v1, .int v2] [(r0, .inr (1, [.int rCells, .int rSigns, .int rHour, .int rStops, .int rWaste, .int rDone, .int rBridged, .ref rKindA, .ref rRoomA, .ref rChargeA, .ref rLeakA, .ref rPlanA])), (rKindA, .inl (D.1 7, 5, .inl rKind)), (rRoomA, .inl (D.1 7, 5, .inl rRoom)), (rChargeA, .inl (D.1 7, 5, .inl rCharge)), (rLeakA, .inl (D.1 7, 5, .inl rLeak)), (rPlanA, .inl (D.1 7, 16, .inl rPlan))] (some (.int oR)) [(r0, .inr (1, [.int rCells, .int rSigns, .int rHour, .int rStops, .int rWaste, .int rDone, .int rBridged, .ref rKindA, .ref rRoomA, .ref rChargeA, .ref rLeakA, .ref rPlanA])), (rKindA, .inl (D.1 7, 5, .inl rKind)), (rRoomA, .inl (D.1 7, 5, .inl rRoom)), (rChargeA, .inl (D.1 7, 5, .inl rCharge)), (rLeakA, .inl (D.1 7, 5, .inl rLeak)), (rPlanA, .inl (D.1 7, 16, .inl rPlan))] := j_met (cc := cX1_cellStopsBy) (nl := 3) (rt := (some .boolean)) (own := RX1) (lv := [(0, .ref r0), (1, .int v1), (2, .int v2)]) (by decide +kernel) rfl rfl rfl (Nat.le_of_ble_eq_true rfl) (fun G C => t_X1_cellStopsBy_0 C hf)

-- X1_stopsBy
theorem fl_X1_stopsBy_31 : Cond.fieldLink RX1 31 "CellsInRow$Row" "cells" "I" ∈ wsX1_stopsBy := by decide +kernel
theorem iw_X1_stopsBy_X1 : ∀ w ∈ wsX10, w ∈ wsX1_stopsBy := by decide +kernel
theorem fl_X1_stopsBy_9 : Cond.fieldLink RX1 9 "CellsInRow$Row" "bridged" "I" ∈ wsX1_stopsBy := by decide +kernel
def f_X1_stopsBy_2 (v1 : Int32) (rCells : Int32) (rBridged : Int32) (rKind : Nat → Int32) (rRoom : Nat → Int32) (rCharge : Nat → Int32) : Nat → Int32 → Option (Int32)
  | 0, _ => none
  | n + 1, v2 => (if rCells ≤ v2 then some (0) else (if v2 = rBridged then f_X1_stopsBy_2 v1 rCells rBridged rKind rRoom rCharge n (v2 + 1) else ob1 (f_X1_cellStopsBy v2 v1 rKind rRoom rCharge) fun a_1 => (if a_1 = 0 then f_X1_stopsBy_2 v1 rCells rBridged rKind rRoom rCharge n (v2 + 1) else some (1))))
set_option maxHeartbeats 4000000 in
set_option maxRecDepth 100000 in
theorem t_X1_stopsBy_2 {G : jX} {D : va_G} {r0 rKindA rRoomA rChargeA rLeakA rPlanA : Nat} {v1 : Int32} {rCells : Int32} {rSigns : Int32} {rHour : Int32} {rStops : Int32} {rWaste : Int32} {rDone : Int32} {rBridged : Int32} {rKind : Nat → Int32} {rRoom : Nat → Int32} {rCharge : Nat → Int32} {rLeak : Nat → Int32} {rPlan : Nat → Int32} {oR : Int32} (C : KC G D cX1_stopsBy RX1 wsX1_stopsBy ({ frames := 1, cells := 0, slots := 0, locals := 22 } : Room) 3 (some .boolean) (some (.int oR)) [(r0, .inr (1, [.int rCells, .int rSigns, .int rHour, .int rStops, .int rWaste, .int rDone, .int rBridged, .ref rKindA, .ref rRoomA, .ref rChargeA, .ref rLeakA, .ref rPlanA])), (rKindA, .inl (D.1 7, 5, .inl rKind)), (rRoomA, .inl (D.1 7, 5, .inl rRoom)), (rChargeA, .inl (D.1 7, 5, .inl rCharge)), (rLeakA, .inl (D.1 7, 5, .inl rLeak)), (rPlanA, .inl (D.1 7, 16, .inl rPlan))]) : ∀ (n : Nat) (v2 : Int32), f_X1_stopsBy_2 v1 rCells rBridged rKind rRoom rCharge n v2 = some oR → JW G D 2 [(0, .ref r0), (1, .int v1), (2, .int v2)] [] [(r0, .inr (1, [.int rCells, .int rSigns, .int rHour, .int rStops, .int rWaste, .int rDone, .int rBridged, .ref rKindA, .ref rRoomA, .ref rChargeA, .ref rLeakA, .ref rPlanA])), (rKindA, .inl (D.1 7, 5, .inl rKind)), (rRoomA, .inl (D.1 7, 5, .inl rRoom)), (rChargeA, .inl (D.1 7, 5, .inl rCharge)), (rLeakA, .inl (D.1 7, 5, .inl rLeak)), (rPlanA, .inl (D.1 7, 16, .inl rPlan))] := by
  intro n
  induction n with
  | zero => intro _ hf; rw [f_X1_stopsBy_2] at hf; cases hf
  | succ n ih =>
    intro v2 hf
    rw [f_X1_stopsBy_2] at hf
    refine j_iload_n (pc := 2) C 2 rfl dX1_stopsBy_2 ?_
    refine j_aload_n (pc := 3) C 0 rfl dX1_stopsBy_3 ?_
    refine j_get (pc := 4) 0 1 0 C iw_X1_stopsBy_X1 rfl rfl (by decide) fl_X1_stopsBy_31 rfl rfl dX1_stopsBy_4 ?_
    refine j_icmp_ge (pc := 7) 35 C hf (by decide) dX1_stopsBy_7 (fun hf => ?_) (fun hf => ?_)
    · refine j_iconst (pc := 35) 0 C (by decide) dX1_stopsBy_35 ?_
      cases hf
      exact j_zret (pc := 36) C (by decide) dX1_stopsBy_36
    · refine j_iload_n (pc := 10) C 2 rfl dX1_stopsBy_10 ?_
      refine j_aload_n (pc := 11) C 0 rfl dX1_stopsBy_11 ?_
      refine j_get (pc := 12) 0 1 6 C iw_X1_stopsBy_X1 rfl rfl (by decide) fl_X1_stopsBy_9 rfl rfl dX1_stopsBy_12 ?_
      refine j_icmp_eq (pc := 15) 29 C hf (by decide) dX1_stopsBy_15 (fun hf => ?_) (fun hf => ?_)
      · refine j_iinc (pc := 29) (v2 + 1) 2 2 [(0, .ref r0), (1, .int v1), (2, .int (v2 + 1))] [1, 2, 0] C rfl (by rfl) (by decide) rfl dX1_stopsBy_29 ?_
        refine j_goto (pc := 32) 2 C (by decide) dX1_stopsBy_32 ?_
        exact ih _ hf
      · refine j_aload_n (pc := 18) C 0 rfl dX1_stopsBy_18 ?_
        refine j_iload_n (pc := 19) C 2 rfl dX1_stopsBy_19 ?_
        refine j_iload_n (pc := 20) C 1 rfl dX1_stopsBy_20 ?_
        obtain ⟨a_1, hu, hf⟩ := ob1_some hf
        refine j_callV (pc := 21) (qr := 0) (ci := 1) [.int v2, .int v1] [] [.int v1, .int v2, .ref r0] [.int a_1] [(r0, .inr (1, [.int rCells, .int rSigns, .int rHour, .int rStops, .int rWaste, .int rDone, .int rBridged, .ref rKindA, .ref rRoomA, .ref rChargeA, .ref rLeakA, .ref rPlanA])), (rKindA, .inl (D.1 7, 5, .inl rKind)), (rRoomA, .inl (D.1 7, 5, .inl rRoom)), (rChargeA, .inl (D.1 7, 5, .inl rCharge)), (rLeakA, .inl (D.1 7, 5, .inl rLeak)), (rPlanA, .inl (D.1 7, 16, .inl rPlan))] [0, 1, 2, 3, 4, 5] [] C (c_X1_cellStopsBy D r0 rKindA rRoomA rChargeA rLeakA rPlanA v2 v1 rCells rSigns rHour rStops rWaste rDone rBridged rKind rRoom rCharge rLeak rPlan a_1 hu) k_X1_cellStopsBy gX1_stopsBy_X1_cellStopsBy ⟨rfl, rfl⟩ ⟨Nat.le_of_ble_eq_true rfl, Nat.le_of_ble_eq_true rfl⟩ rfl rfl rfl rfl rfl rfl (Nat.le_of_ble_eq_true rfl) rfl rfl rfl (by decide) (by decide) (by decide) rfl rfl dX1_stopsBy_21 ?_
        refine j_if_eq (pc := 24) 29 C hf (by decide) dX1_stopsBy_24 (fun hf => ?_) (fun hf => ?_)
        · refine j_iinc (pc := 29) (v2 + 1) 2 2 [(0, .ref r0), (1, .int v1), (2, .int (v2 + 1))] [1, 2, 0] C rfl (by rfl) (by decide) rfl dX1_stopsBy_29 ?_
          refine j_goto (pc := 32) 2 C (by decide) dX1_stopsBy_32 ?_
          exact ih _ hf
        · refine j_iconst (pc := 27) 1 C (by decide) dX1_stopsBy_27 ?_
          cases hf
          exact j_zret (pc := 28) C (by decide) dX1_stopsBy_28
def f_X1_stopsBy (v1 : Int32) (rCells : Int32) (rBridged : Int32) (rKind : Nat → Int32) (rRoom : Nat → Int32) (rCharge : Nat → Int32) : Option (Int32) := f_X1_stopsBy_2 v1 rCells rBridged rKind rRoom rCharge 1000 0
set_option maxHeartbeats 4000000 in
set_option maxRecDepth 100000 in
theorem t_X1_stopsBy_0 {G : jX} {D : va_G} {r0 rKindA rRoomA rChargeA rLeakA rPlanA : Nat} {v1 : Int32} {rCells : Int32} {rSigns : Int32} {rHour : Int32} {rStops : Int32} {rWaste : Int32} {rDone : Int32} {rBridged : Int32} {rKind : Nat → Int32} {rRoom : Nat → Int32} {rCharge : Nat → Int32} {rLeak : Nat → Int32} {rPlan : Nat → Int32} {oR : Int32} (C : KC G D cX1_stopsBy RX1 wsX1_stopsBy ({ frames := 1, cells := 0, slots := 0, locals := 22 } : Room) 3 (some .boolean) (some (.int oR)) [(r0, .inr (1, [.int rCells, .int rSigns, .int rHour, .int rStops, .int rWaste, .int rDone, .int rBridged, .ref rKindA, .ref rRoomA, .ref rChargeA, .ref rLeakA, .ref rPlanA])), (rKindA, .inl (D.1 7, 5, .inl rKind)), (rRoomA, .inl (D.1 7, 5, .inl rRoom)), (rChargeA, .inl (D.1 7, 5, .inl rCharge)), (rLeakA, .inl (D.1 7, 5, .inl rLeak)), (rPlanA, .inl (D.1 7, 16, .inl rPlan))]) (hf : f_X1_stopsBy v1 rCells rBridged rKind rRoom rCharge = some oR) : JW G D 0 [(0, .ref r0), (1, .int v1)] [] [(r0, .inr (1, [.int rCells, .int rSigns, .int rHour, .int rStops, .int rWaste, .int rDone, .int rBridged, .ref rKindA, .ref rRoomA, .ref rChargeA, .ref rLeakA, .ref rPlanA])), (rKindA, .inl (D.1 7, 5, .inl rKind)), (rRoomA, .inl (D.1 7, 5, .inl rRoom)), (rChargeA, .inl (D.1 7, 5, .inl rCharge)), (rLeakA, .inl (D.1 7, 5, .inl rLeak)), (rPlanA, .inl (D.1 7, 16, .inl rPlan))] := by
  unfold f_X1_stopsBy at hf
  refine j_iconst (pc := 0) 0 C (by decide) dX1_stopsBy_0 ?_
  refine j_istore_n (pc := 1) 2 [(0, .ref r0), (1, .int v1), (2, .int 0)] [1, 2, 0] C rfl (by decide) rfl dX1_stopsBy_1 ?_
  exact t_X1_stopsBy_2 C 1000 _ hf
theorem k_X1_stopsBy : CK yX1_stopsBy wsX1_stopsBy cX1_stopsBy 3 (some .boolean) 1 := ⟨rfl, by decide +kernel⟩
theorem c_X1_stopsBy (D : va_G) (r0 rKindA rRoomA rChargeA rLeakA rPlanA : Nat) (v1 : Int32) (rCells : Int32) (rSigns : Int32) (rHour : Int32) (rStops : Int32) (rWaste : Int32) (rDone : Int32) (rBridged : Int32) (rKind : Nat → Int32) (rRoom : Nat → Int32) (rCharge : Nat → Int32) (rLeak : Nat → Int32) (rPlan : Nat → Int32) (oR : Int32) (hf : f_X1_stopsBy v1 rCells rBridged rKind rRoom rCharge = some oR) : ∀ l, MW l yX1_stopsBy wsX1_stopsBy ({ frames := 1, cells := 0, slots := 0, locals := 22 } : Room) D [.ref r0, .int v1] [(r0, .inr (1, [.int rCells, .int rSigns, .int rHour, .int rStops, .int rWaste, .int rDone, .int rBridged, .ref rKindA, .ref rRoomA, .ref rChargeA, .ref rLeakA, .ref rPlanA])), (rKindA, .inl (D.1 7, 5, .inl rKind)), (rRoomA, .inl (D.1 7, 5, .inl rRoom)), (rChargeA, .inl (D.1 7, 5, .inl rCharge)), (rLeakA, .inl (D.1 7, 5, .inl rLeak)), (rPlanA, .inl (D.1 7, 16, .inl rPlan))] (some (.int oR)) [(r0, .inr (1, [.int rCells, .int rSigns, .int rHour, .int rStops, .int rWaste, .int rDone, .int rBridged, .ref rKindA, .ref rRoomA, .ref rChargeA, .ref rLeakA, .ref rPlanA])), (rKindA, .inl (D.1 7, 5, .inl rKind)), (rRoomA, .inl (D.1 7, 5, .inl rRoom)), (rChargeA, .inl (D.1 7, 5, .inl rCharge)), (rLeakA, .inl (D.1 7, 5, .inl rLeak)), (rPlanA, .inl (D.1 7, 16, .inl rPlan))] := j_met (cc := cX1_stopsBy) (nl := 3) (rt := (some .boolean)) (own := RX1) (lv := [(0, .ref r0), (1, .int v1)]) (by decide +kernel) rfl rfl rfl (Nat.le_of_ble_eq_true rfl) (fun G C => t_X1_stopsBy_0 C hf)
