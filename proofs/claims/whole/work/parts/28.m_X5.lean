-- X5_feed
theorem fl_X5_feed_10 : Cond.fieldLink RX5 10 "CellsInRow" "tape" "LCellsInRow$Tape;" ∈ wsX5_feed := by decide +kernel
theorem iw_X5_feed_X5 : ∀ w ∈ wsX50, w ∈ wsX5_feed := by decide +kernel
theorem fl_X5_feed_59 : Cond.fieldLink RX5 59 "CellsInRow$Tape" "length" "I" ∈ wsX5_feed := by decide +kernel
theorem iw_X5_feed_X4 : ∀ w ∈ wsX40, w ∈ wsX5_feed := by decide +kernel
theorem fl_X5_feed_62 : Cond.fieldLink RX5 62 "CellsInRow$Tape" "bytes" "[I" ∈ wsX5_feed := by decide +kernel
set_option maxHeartbeats 4000000 in
set_option maxRecDepth 100000 in
theorem t_X5_feed_0 {G : jX} {D : va_G} {x0 p0 n0 o0 t0 s0 im0 sh0 cr0 pBytesA : Nat} {v1 : Int32} {xLatestTorn : Int32} {pLength : Int32} {pLatestFault : Int32} {pPlace : Int32} {pToken : Int32} {pFrom : Int32} {pNumber : Int32} {pPlanned : Int32} {pBytes : Nat → Int32} {oR : Int32} {oPLength : Int32} {oPBytes : Nat → Int32} (C : KC G D cX5_feed RX5 wsX5_feed ({ frames := 0, cells := 0, slots := 0, locals := 0 } : Room) 2 (some .int) (some (.int oR)) [(x0, .inr (5, [.ref p0, .ref n0, .ref o0, .ref t0, .ref s0, .ref im0, .ref sh0, .ref cr0, .int xLatestTorn])), (p0, .inr (4, [.int oPLength, .int pLatestFault, .ref pBytesA, .int pPlace, .int pToken, .int pFrom, .int pNumber, .int pPlanned])), (pBytesA, .inl (D.1 7, 160, .inl oPBytes))]) (hf : f_X5_feed v1 pLength pBytes = some (oR, oPLength, oPBytes)) : JW G D 0 [(0, .ref x0), (1, .int v1)] [] [(x0, .inr (5, [.ref p0, .ref n0, .ref o0, .ref t0, .ref s0, .ref im0, .ref sh0, .ref cr0, .int xLatestTorn])), (p0, .inr (4, [.int pLength, .int pLatestFault, .ref pBytesA, .int pPlace, .int pToken, .int pFrom, .int pNumber, .int pPlanned])), (pBytesA, .inl (D.1 7, 160, .inl pBytes))] := by
  unfold f_X5_feed at hf
  refine j_iload_n (pc := 0) C 1 rfl dX5_feed_0 ?_
  refine j_if_lt (pc := 1) 10 C hf (by decide) dX5_feed_1 (fun hf => ?_) (fun hf => ?_)
  · refine j_iconst (pc := 10) (-1) C (by decide) dX5_feed_10 ?_
    obtain ⟨rfl, rfl, rfl⟩ := si3 hf
    exact j_iret (pc := 11) C dX5_feed_11
  · refine j_iload_n (pc := 4) C 1 rfl dX5_feed_4 ?_
    refine j_bipush (pc := 5) 127 C (by decide) dX5_feed_5 ?_
    refine j_icmp_le (pc := 7) 12 C hf (by decide) dX5_feed_7 (fun hf => ?_) (fun hf => ?_)
    · refine j_aload_n (pc := 12) C 0 rfl dX5_feed_12 ?_
      refine j_get (pc := 13) 0 5 0 C iw_X5_feed_X5 rfl rfl (by decide) fl_X5_feed_10 rfl rfl dX5_feed_13 ?_
      refine j_get (pc := 16) 1 4 0 C iw_X5_feed_X4 rfl rfl (by decide) fl_X5_feed_59 rfl rfl dX5_feed_16 ?_
      refine j_sipush (pc := 19) 160 C (by decide) dX5_feed_19 ?_
      refine j_icmp_lt (pc := 22) 28 C hf (by decide) dX5_feed_22 (fun hf => ?_) (fun hf => ?_)
      · refine j_aload_n (pc := 28) C 0 rfl dX5_feed_28 ?_
        refine j_get (pc := 29) 0 5 0 C iw_X5_feed_X5 rfl rfl (by decide) fl_X5_feed_10 rfl rfl dX5_feed_29 ?_
        refine j_get (pc := 32) 1 4 2 C iw_X5_feed_X4 rfl rfl (by decide) fl_X5_feed_62 rfl rfl dX5_feed_32 ?_
        refine j_aload_n (pc := 35) C 0 rfl dX5_feed_35 ?_
        refine j_get (pc := 36) 0 5 0 C iw_X5_feed_X5 rfl rfl (by decide) fl_X5_feed_10 rfl rfl dX5_feed_36 ?_
        refine j_get (pc := 39) 1 4 0 C iw_X5_feed_X4 rfl rfl (by decide) fl_X5_feed_59 rfl rfl dX5_feed_39 ?_
        refine j_iload_n (pc := 42) C 1 rfl dX5_feed_42 ?_
        refine j_iast (pc := 43) 2 [(x0, .inr (5, [.ref p0, .ref n0, .ref o0, .ref t0, .ref s0, .ref im0, .ref sh0, .ref cr0, .int xLatestTorn])), (p0, .inr (4, [.int pLength, .int pLatestFault, .ref pBytesA, .int pPlace, .int pToken, .int pFrom, .int pNumber, .int pPlanned])), (pBytesA, .inl (D.1 7, 160, .inl (upd pBytes pLength.toNatClampNeg v1)))] C rfl rfl hf dX5_feed_43 (fun hf => ?_)
        refine j_aload_n (pc := 44) C 0 rfl dX5_feed_44 ?_
        refine j_get (pc := 45) 0 5 0 C iw_X5_feed_X5 rfl rfl (by decide) fl_X5_feed_10 rfl rfl dX5_feed_45 ?_
        refine j_dup (pc := 48) C rfl dX5_feed_48 ?_
        refine j_get (pc := 49) 1 4 0 C iw_X5_feed_X4 rfl rfl (by decide) fl_X5_feed_59 rfl rfl dX5_feed_49 ?_
        refine j_iconst (pc := 52) 1 C (by decide) dX5_feed_52 ?_
        refine j_iadd (pc := 53) C dX5_feed_53 ?_
        refine j_put (pc := 54) (ty := .int) 1 4 0 [(x0, .inr (5, [.ref p0, .ref n0, .ref o0, .ref t0, .ref s0, .ref im0, .ref sh0, .ref cr0, .int xLatestTorn])), (p0, .inr (4, [.int (pLength + 1), .int pLatestFault, .ref pBytesA, .int pPlace, .int pToken, .int pFrom, .int pNumber, .int pPlanned])), (pBytesA, .inl (D.1 7, 160, .inl (upd pBytes pLength.toNatClampNeg v1)))] C iw_X5_feed_X4 tyX4 tyX4_ok nmX4 rfl rfl (by decide) fl_X5_feed_59 rfl rfl rfl rfl rfl (Nat.le_of_ble_eq_true rfl) rfl dX5_feed_54 ?_
        refine j_aload_n (pc := 57) C 0 rfl dX5_feed_57 ?_
        refine j_get (pc := 58) 0 5 0 C iw_X5_feed_X5 rfl rfl (by decide) fl_X5_feed_10 rfl rfl dX5_feed_58 ?_
        refine j_get (pc := 61) 1 4 0 C iw_X5_feed_X4 rfl rfl (by decide) fl_X5_feed_59 rfl rfl dX5_feed_61 ?_
        obtain ⟨rfl, rfl, rfl⟩ := si3 hf
        exact j_iret (pc := 64) C dX5_feed_64
      · refine j_bipush (pc := 25) (-3) C (by decide) dX5_feed_25 ?_
        obtain ⟨rfl, rfl, rfl⟩ := si3 hf
        exact j_iret (pc := 27) C dX5_feed_27
    · refine j_iconst (pc := 10) (-1) C (by decide) dX5_feed_10 ?_
      obtain ⟨rfl, rfl, rfl⟩ := si3 hf
      exact j_iret (pc := 11) C dX5_feed_11
theorem k_X5_feed : CK yX5_feed wsX5_feed cX5_feed 2 (some .int) 1 := ⟨rfl, by decide +kernel⟩
theorem c_X5_feed (D : va_G) (x0 p0 n0 o0 t0 s0 im0 sh0 cr0 pBytesA : Nat) (v1 : Int32) (xLatestTorn : Int32) (pLength : Int32) (pLatestFault : Int32) (pPlace : Int32) (pToken : Int32) (pFrom : Int32) (pNumber : Int32) (pPlanned : Int32) (pBytes : Nat → Int32) (oR : Int32) (oPLength : Int32) (oPBytes : Nat → Int32) (hf : f_X5_feed v1 pLength pBytes = some (oR, oPLength, oPBytes)) : ∀ l, MW l yX5_feed wsX5_feed ({ frames := 0, cells := 0, slots := 0, locals := 0 } : Room) D [.ref x0, .int v1] [(x0, .inr (5, [.ref p0, .ref n0, .ref o0, .ref t0, .ref s0, .ref im0, .ref sh0, .ref cr0, .int xLatestTorn])), (p0, .inr (4, [.int pLength, .int pLatestFault, .ref pBytesA, .int pPlace, .int pToken, .int pFrom, .int pNumber, .int pPlanned])), (pBytesA, .inl (D.1 7, 160, .inl pBytes))] (some (.int oR)) [(x0, .inr (5, [.ref p0, .ref n0, .ref o0, .ref t0, .ref s0, .ref im0, .ref sh0, .ref cr0, .int xLatestTorn])), (p0, .inr (4, [.int oPLength, .int pLatestFault, .ref pBytesA, .int pPlace, .int pToken, .int pFrom, .int pNumber, .int pPlanned])), (pBytesA, .inl (D.1 7, 160, .inl oPBytes))] := j_met (cc := cX5_feed) (nl := 2) (rt := (some .int)) (own := RX5) (lv := [(0, .ref x0), (1, .int v1)]) (by decide +kernel) rfl rfl rfl (Nat.le_of_ble_eq_true rfl) (fun G C => t_X5_feed_0 C hf)

-- X5_end
theorem fl_X5_end_10 : Cond.fieldLink RX5 10 "CellsInRow" "tape" "LCellsInRow$Tape;" ∈ wsX5_end := by decide +kernel
theorem iw_X5_end_X5 : ∀ w ∈ wsX50, w ∈ wsX5_end := by decide +kernel
theorem fl_X5_end_59 : Cond.fieldLink RX5 59 "CellsInRow$Tape" "length" "I" ∈ wsX5_end := by decide +kernel
theorem iw_X5_end_X4 : ∀ w ∈ wsX40, w ∈ wsX5_end := by decide +kernel
set_option maxHeartbeats 4000000 in
set_option maxRecDepth 100000 in
theorem t_X5_end_0 {G : jX} {D : va_G} {x0 p0 n0 o0 t0 s0 im0 sh0 cr0 pBytesA : Nat} {v1 : Int32} {xLatestTorn : Int32} {pLength : Int32} {pLatestFault : Int32} {pPlace : Int32} {pToken : Int32} {pFrom : Int32} {pNumber : Int32} {pPlanned : Int32} {pBytes : Nat → Int32} {oR : Int32} {oPLength : Int32} (C : KC G D cX5_end RX5 wsX5_end ({ frames := 0, cells := 0, slots := 0, locals := 0 } : Room) 3 (some .int) (some (.int oR)) [(x0, .inr (5, [.ref p0, .ref n0, .ref o0, .ref t0, .ref s0, .ref im0, .ref sh0, .ref cr0, .int xLatestTorn])), (p0, .inr (4, [.int oPLength, .int pLatestFault, .ref pBytesA, .int pPlace, .int pToken, .int pFrom, .int pNumber, .int pPlanned])), (pBytesA, .inl (D.1 7, 160, .inl pBytes))]) (hf : f_X5_end v1 pLength = some (oR, oPLength)) : JW G D 0 [(0, .ref x0), (1, .int v1)] [] [(x0, .inr (5, [.ref p0, .ref n0, .ref o0, .ref t0, .ref s0, .ref im0, .ref sh0, .ref cr0, .int xLatestTorn])), (p0, .inr (4, [.int pLength, .int pLatestFault, .ref pBytesA, .int pPlace, .int pToken, .int pFrom, .int pNumber, .int pPlanned])), (pBytesA, .inl (D.1 7, 160, .inl pBytes))] := by
  unfold f_X5_end at hf
  refine j_iload_n (pc := 0) C 1 rfl dX5_end_0 ?_
  refine j_if_lt (pc := 1) 15 C hf (by decide) dX5_end_1 (fun hf => ?_) (fun hf => ?_)
  · refine j_iconst (pc := 15) (-1) C (by decide) dX5_end_15 ?_
    obtain ⟨rfl, rfl⟩ := si2 hf
    exact j_iret (pc := 16) C dX5_end_16
  · refine j_iload_n (pc := 4) C 1 rfl dX5_end_4 ?_
    refine j_aload_n (pc := 5) C 0 rfl dX5_end_5 ?_
    refine j_get (pc := 6) 0 5 0 C iw_X5_end_X5 rfl rfl (by decide) fl_X5_end_10 rfl rfl dX5_end_6 ?_
    refine j_get (pc := 9) 1 4 0 C iw_X5_end_X4 rfl rfl (by decide) fl_X5_end_59 rfl rfl dX5_end_9 ?_
    refine j_icmp_le (pc := 12) 17 C hf (by decide) dX5_end_12 (fun hf => ?_) (fun hf => ?_)
    · refine j_aload_n (pc := 17) C 0 rfl dX5_end_17 ?_
      refine j_get (pc := 18) 0 5 0 C iw_X5_end_X5 rfl rfl (by decide) fl_X5_end_10 rfl rfl dX5_end_18 ?_
      refine j_get (pc := 21) 1 4 0 C iw_X5_end_X4 rfl rfl (by decide) fl_X5_end_59 rfl rfl dX5_end_21 ?_
      refine j_istore_n (pc := 24) 2 [(0, .ref x0), (1, .int v1), (2, .int pLength)] [1, 2, 0] C rfl (by decide) rfl dX5_end_24 ?_
      refine j_aload_n (pc := 25) C 0 rfl dX5_end_25 ?_
      refine j_get (pc := 26) 0 5 0 C iw_X5_end_X5 rfl rfl (by decide) fl_X5_end_10 rfl rfl dX5_end_26 ?_
      refine j_iload_n (pc := 29) C 1 rfl dX5_end_29 ?_
      refine j_put (pc := 30) (ty := .int) 1 4 0 [(x0, .inr (5, [.ref p0, .ref n0, .ref o0, .ref t0, .ref s0, .ref im0, .ref sh0, .ref cr0, .int xLatestTorn])), (p0, .inr (4, [.int v1, .int pLatestFault, .ref pBytesA, .int pPlace, .int pToken, .int pFrom, .int pNumber, .int pPlanned])), (pBytesA, .inl (D.1 7, 160, .inl pBytes))] C iw_X5_end_X4 tyX4 tyX4_ok nmX4 rfl rfl (by decide) fl_X5_end_59 rfl rfl rfl rfl rfl (Nat.le_of_ble_eq_true rfl) rfl dX5_end_30 ?_
      refine j_iload_n (pc := 33) C 2 rfl dX5_end_33 ?_
      obtain ⟨rfl, rfl⟩ := si2 hf
      exact j_iret (pc := 34) C dX5_end_34
    · refine j_iconst (pc := 15) (-1) C (by decide) dX5_end_15 ?_
      obtain ⟨rfl, rfl⟩ := si2 hf
      exact j_iret (pc := 16) C dX5_end_16
theorem k_X5_end : CK yX5_end wsX5_end cX5_end 3 (some .int) 1 := ⟨rfl, by decide +kernel⟩
theorem c_X5_end (D : va_G) (x0 p0 n0 o0 t0 s0 im0 sh0 cr0 pBytesA : Nat) (v1 : Int32) (xLatestTorn : Int32) (pLength : Int32) (pLatestFault : Int32) (pPlace : Int32) (pToken : Int32) (pFrom : Int32) (pNumber : Int32) (pPlanned : Int32) (pBytes : Nat → Int32) (oR : Int32) (oPLength : Int32) (hf : f_X5_end v1 pLength = some (oR, oPLength)) : ∀ l, MW l yX5_end wsX5_end ({ frames := 0, cells := 0, slots := 0, locals := 0 } : Room) D [.ref x0, .int v1] [(x0, .inr (5, [.ref p0, .ref n0, .ref o0, .ref t0, .ref s0, .ref im0, .ref sh0, .ref cr0, .int xLatestTorn])), (p0, .inr (4, [.int pLength, .int pLatestFault, .ref pBytesA, .int pPlace, .int pToken, .int pFrom, .int pNumber, .int pPlanned])), (pBytesA, .inl (D.1 7, 160, .inl pBytes))] (some (.int oR)) [(x0, .inr (5, [.ref p0, .ref n0, .ref o0, .ref t0, .ref s0, .ref im0, .ref sh0, .ref cr0, .int xLatestTorn])), (p0, .inr (4, [.int oPLength, .int pLatestFault, .ref pBytesA, .int pPlace, .int pToken, .int pFrom, .int pNumber, .int pPlanned])), (pBytesA, .inl (D.1 7, 160, .inl pBytes))] := j_met (cc := cX5_end) (nl := 3) (rt := (some .int)) (own := RX5) (lv := [(0, .ref x0), (1, .int v1)]) (by decide +kernel) rfl rfl rfl (Nat.le_of_ble_eq_true rfl) (fun G C => t_X5_end_0 C hf)

-- X5_fault
theorem fl_X5_fault_10 : Cond.fieldLink RX5 10 "CellsInRow" "tape" "LCellsInRow$Tape;" ∈ wsX5_fault := by decide +kernel
theorem iw_X5_fault_X5 : ∀ w ∈ wsX50, w ∈ wsX5_fault := by decide +kernel
theorem fl_X5_fault_81 : Cond.fieldLink RX5 81 "CellsInRow$Tape" "latestFault" "I" ∈ wsX5_fault := by decide +kernel
theorem iw_X5_fault_X4 : ∀ w ∈ wsX40, w ∈ wsX5_fault := by decide +kernel
set_option maxHeartbeats 4000000 in
set_option maxRecDepth 100000 in
theorem t_X5_fault_0 {G : jX} {D : va_G} {x0 p0 n0 o0 t0 s0 im0 sh0 cr0 pBytesA : Nat} {xLatestTorn : Int32} {pLength : Int32} {pLatestFault : Int32} {pPlace : Int32} {pToken : Int32} {pFrom : Int32} {pNumber : Int32} {pPlanned : Int32} {pBytes : Nat → Int32} {oR : Int32} (C : KC G D cX5_fault RX5 wsX5_fault ({ frames := 0, cells := 0, slots := 0, locals := 0 } : Room) 1 (some .int) (some (.int oR)) [(x0, .inr (5, [.ref p0, .ref n0, .ref o0, .ref t0, .ref s0, .ref im0, .ref sh0, .ref cr0, .int xLatestTorn])), (p0, .inr (4, [.int pLength, .int pLatestFault, .ref pBytesA, .int pPlace, .int pToken, .int pFrom, .int pNumber, .int pPlanned])), (pBytesA, .inl (D.1 7, 160, .inl pBytes))]) (hf : f_X5_fault pLatestFault = some oR) : JW G D 0 [(0, .ref x0)] [] [(x0, .inr (5, [.ref p0, .ref n0, .ref o0, .ref t0, .ref s0, .ref im0, .ref sh0, .ref cr0, .int xLatestTorn])), (p0, .inr (4, [.int pLength, .int pLatestFault, .ref pBytesA, .int pPlace, .int pToken, .int pFrom, .int pNumber, .int pPlanned])), (pBytesA, .inl (D.1 7, 160, .inl pBytes))] := by
  unfold f_X5_fault at hf
  refine j_aload_n (pc := 0) C 0 rfl dX5_fault_0 ?_
  refine j_get (pc := 1) 0 5 0 C iw_X5_fault_X5 rfl rfl (by decide) fl_X5_fault_10 rfl rfl dX5_fault_1 ?_
  refine j_get (pc := 4) 1 4 1 C iw_X5_fault_X4 rfl rfl (by decide) fl_X5_fault_81 rfl rfl dX5_fault_4 ?_
  obtain rfl := si1 hf
  exact j_iret (pc := 7) C dX5_fault_7
theorem k_X5_fault : CK yX5_fault wsX5_fault cX5_fault 1 (some .int) 0 := ⟨rfl, by decide +kernel⟩
theorem c_X5_fault (D : va_G) (x0 p0 n0 o0 t0 s0 im0 sh0 cr0 pBytesA : Nat) (xLatestTorn : Int32) (pLength : Int32) (pLatestFault : Int32) (pPlace : Int32) (pToken : Int32) (pFrom : Int32) (pNumber : Int32) (pPlanned : Int32) (pBytes : Nat → Int32) (oR : Int32) (hf : f_X5_fault pLatestFault = some oR) : ∀ l, MW l yX5_fault wsX5_fault ({ frames := 0, cells := 0, slots := 0, locals := 0 } : Room) D [.ref x0] [(x0, .inr (5, [.ref p0, .ref n0, .ref o0, .ref t0, .ref s0, .ref im0, .ref sh0, .ref cr0, .int xLatestTorn])), (p0, .inr (4, [.int pLength, .int pLatestFault, .ref pBytesA, .int pPlace, .int pToken, .int pFrom, .int pNumber, .int pPlanned])), (pBytesA, .inl (D.1 7, 160, .inl pBytes))] (some (.int oR)) [(x0, .inr (5, [.ref p0, .ref n0, .ref o0, .ref t0, .ref s0, .ref im0, .ref sh0, .ref cr0, .int xLatestTorn])), (p0, .inr (4, [.int pLength, .int pLatestFault, .ref pBytesA, .int pPlace, .int pToken, .int pFrom, .int pNumber, .int pPlanned])), (pBytesA, .inl (D.1 7, 160, .inl pBytes))] := j_met (cc := cX5_fault) (nl := 1) (rt := (some .int)) (own := RX5) (lv := [(0, .ref x0)]) (by decide +kernel) rfl rfl rfl (Nat.le_of_ble_eq_true rfl) (fun G C => t_X5_fault_0 C hf)

-- X5_rule
theorem fl_X5_rule_19 : Cond.fieldLink RX5 19 "CellsInRow" "now" "LCellsInRow$Row;" ∈ wsX5_rule := by decide +kernel
theorem iw_X5_rule_X5 : ∀ w ∈ wsX50, w ∈ wsX5_rule := by decide +kernel
theorem fl_X5_rule_84 : Cond.fieldLink RX5 84 "CellsInRow$Row" "cells" "I" ∈ wsX5_rule := by decide +kernel
theorem iw_X5_rule_X1 : ∀ w ∈ wsX10, w ∈ wsX5_rule := by decide +kernel
theorem fl_X5_rule_87 : Cond.fieldLink RX5 87 "CellsInRow$Row" "signs" "I" ∈ wsX5_rule := by decide +kernel
theorem fl_X5_rule_90 : Cond.fieldLink RX5 90 "CellsInRow$Row" "hour" "I" ∈ wsX5_rule := by decide +kernel
theorem fl_X5_rule_93 : Cond.fieldLink RX5 93 "CellsInRow$Row" "stops" "I" ∈ wsX5_rule := by decide +kernel
theorem fl_X5_rule_96 : Cond.fieldLink RX5 96 "CellsInRow$Row" "waste" "I" ∈ wsX5_rule := by decide +kernel
theorem fl_X5_rule_99 : Cond.fieldLink RX5 99 "CellsInRow$Row" "done" "I" ∈ wsX5_rule := by decide +kernel
set_option maxHeartbeats 4000000 in
set_option maxRecDepth 100000 in
theorem t_X5_rule_0 {G : jX} {D : va_G} {x0 p0 n0 o0 t0 s0 im0 sh0 cr0 nKindA nRoomA nChargeA nLeakA nPlanA : Nat} {v1 : Int32} {xLatestTorn : Int32} {nCells : Int32} {nSigns : Int32} {nHour : Int32} {nStops : Int32} {nWaste : Int32} {nDone : Int32} {nBridged : Int32} {nKind : Nat → Int32} {nRoom : Nat → Int32} {nCharge : Nat → Int32} {nLeak : Nat → Int32} {nPlan : Nat → Int32} {oR : Int32} (C : KC G D cX5_rule RX5 wsX5_rule ({ frames := 2, cells := 0, slots := 0, locals := 44 } : Room) 2 (some .int) (some (.int oR)) [(x0, .inr (5, [.ref p0, .ref n0, .ref o0, .ref t0, .ref s0, .ref im0, .ref sh0, .ref cr0, .int xLatestTorn])), (n0, .inr (1, [.int nCells, .int nSigns, .int nHour, .int nStops, .int nWaste, .int nDone, .int nBridged, .ref nKindA, .ref nRoomA, .ref nChargeA, .ref nLeakA, .ref nPlanA])), (nKindA, .inl (D.1 7, 5, .inl nKind)), (nRoomA, .inl (D.1 7, 5, .inl nRoom)), (nChargeA, .inl (D.1 7, 5, .inl nCharge)), (nLeakA, .inl (D.1 7, 5, .inl nLeak)), (nPlanA, .inl (D.1 7, 16, .inl nPlan))]) (hf : f_X5_rule v1 nCells nSigns nHour nStops nWaste nDone nBridged nKind nRoom nCharge nPlan = some oR) : JW G D 0 [(0, .ref x0), (1, .int v1)] [] [(x0, .inr (5, [.ref p0, .ref n0, .ref o0, .ref t0, .ref s0, .ref im0, .ref sh0, .ref cr0, .int xLatestTorn])), (n0, .inr (1, [.int nCells, .int nSigns, .int nHour, .int nStops, .int nWaste, .int nDone, .int nBridged, .ref nKindA, .ref nRoomA, .ref nChargeA, .ref nLeakA, .ref nPlanA])), (nKindA, .inl (D.1 7, 5, .inl nKind)), (nRoomA, .inl (D.1 7, 5, .inl nRoom)), (nChargeA, .inl (D.1 7, 5, .inl nCharge)), (nLeakA, .inl (D.1 7, 5, .inl nLeak)), (nPlanA, .inl (D.1 7, 16, .inl nPlan))] := by
  unfold f_X5_rule at hf
  refine j_iload_n (pc := 0) C 1 rfl dX5_rule_0 ?_
  by_cases c0 : v1 = 0
  · replace hf := (if_pos c0).symm.trans hf
    refine j_tbl (pc := 1) 48 0 C (by rw [c0]; rfl) (by decide) rfl (by decide) dX5_rule_1 ?_
    refine j_aload_n (pc := 48) C 0 rfl dX5_rule_48 ?_
    refine j_get (pc := 49) 0 5 1 C iw_X5_rule_X5 rfl rfl (by decide) fl_X5_rule_19 rfl rfl dX5_rule_49 ?_
    refine j_get (pc := 52) 1 1 0 C iw_X5_rule_X1 rfl rfl (by decide) fl_X5_rule_84 rfl rfl dX5_rule_52 ?_
    obtain rfl := si1 hf
    exact j_iret (pc := 55) C dX5_rule_55
  replace hf := (if_neg c0).symm.trans hf
  by_cases c1 : v1 = 1
  · replace hf := (if_pos c1).symm.trans hf
    refine j_tbl (pc := 1) 56 1 C (by rw [c1]; rfl) (by decide) rfl (by decide) dX5_rule_1 ?_
    refine j_aload_n (pc := 56) C 0 rfl dX5_rule_56 ?_
    refine j_get (pc := 57) 0 5 1 C iw_X5_rule_X5 rfl rfl (by decide) fl_X5_rule_19 rfl rfl dX5_rule_57 ?_
    refine j_get (pc := 60) 1 1 1 C iw_X5_rule_X1 rfl rfl (by decide) fl_X5_rule_87 rfl rfl dX5_rule_60 ?_
    obtain rfl := si1 hf
    exact j_iret (pc := 63) C dX5_rule_63
  replace hf := (if_neg c1).symm.trans hf
  by_cases c2 : v1 = 2
  · replace hf := (if_pos c2).symm.trans hf
    refine j_tbl (pc := 1) 64 2 C (by rw [c2]; rfl) (by decide) rfl (by decide) dX5_rule_1 ?_
    refine j_aload_n (pc := 64) C 0 rfl dX5_rule_64 ?_
    refine j_get (pc := 65) 0 5 1 C iw_X5_rule_X5 rfl rfl (by decide) fl_X5_rule_19 rfl rfl dX5_rule_65 ?_
    refine j_get (pc := 68) 1 1 2 C iw_X5_rule_X1 rfl rfl (by decide) fl_X5_rule_90 rfl rfl dX5_rule_68 ?_
    obtain rfl := si1 hf
    exact j_iret (pc := 71) C dX5_rule_71
  replace hf := (if_neg c2).symm.trans hf
  by_cases c3 : v1 = 3
  · replace hf := (if_pos c3).symm.trans hf
    refine j_tbl (pc := 1) 72 3 C (by rw [c3]; rfl) (by decide) rfl (by decide) dX5_rule_1 ?_
    refine j_aload_n (pc := 72) C 0 rfl dX5_rule_72 ?_
    refine j_get (pc := 73) 0 5 1 C iw_X5_rule_X5 rfl rfl (by decide) fl_X5_rule_19 rfl rfl dX5_rule_73 ?_
    refine j_get (pc := 76) 1 1 3 C iw_X5_rule_X1 rfl rfl (by decide) fl_X5_rule_93 rfl rfl dX5_rule_76 ?_
    obtain rfl := si1 hf
    exact j_iret (pc := 79) C dX5_rule_79
  replace hf := (if_neg c3).symm.trans hf
  by_cases c4 : v1 = 4
  · replace hf := (if_pos c4).symm.trans hf
    refine j_tbl (pc := 1) 80 4 C (by rw [c4]; rfl) (by decide) rfl (by decide) dX5_rule_1 ?_
    refine j_aload_n (pc := 80) C 0 rfl dX5_rule_80 ?_
    refine j_get (pc := 81) 0 5 1 C iw_X5_rule_X5 rfl rfl (by decide) fl_X5_rule_19 rfl rfl dX5_rule_81 ?_
    refine j_get (pc := 84) 1 1 4 C iw_X5_rule_X1 rfl rfl (by decide) fl_X5_rule_96 rfl rfl dX5_rule_84 ?_
    obtain rfl := si1 hf
    exact j_iret (pc := 87) C dX5_rule_87
  replace hf := (if_neg c4).symm.trans hf
  by_cases c5 : v1 = 5
  · replace hf := (if_pos c5).symm.trans hf
    refine j_tbl (pc := 1) 88 5 C (by rw [c5]; rfl) (by decide) rfl (by decide) dX5_rule_1 ?_
    refine j_aload_n (pc := 88) C 0 rfl dX5_rule_88 ?_
    refine j_get (pc := 89) 0 5 1 C iw_X5_rule_X5 rfl rfl (by decide) fl_X5_rule_19 rfl rfl dX5_rule_89 ?_
    refine j_get (pc := 92) 1 1 5 C iw_X5_rule_X1 rfl rfl (by decide) fl_X5_rule_99 rfl rfl dX5_rule_92 ?_
    obtain rfl := si1 hf
    exact j_iret (pc := 95) C dX5_rule_95
  replace hf := (if_neg c5).symm.trans hf
  by_cases c6 : v1 = 6
  · replace hf := (if_pos c6).symm.trans hf
    refine j_tbl (pc := 1) 96 6 C (by rw [c6]; rfl) (by decide) rfl (by decide) dX5_rule_1 ?_
    refine j_aload_n (pc := 96) C 0 rfl dX5_rule_96 ?_
    refine j_get (pc := 97) 0 5 1 C iw_X5_rule_X5 rfl rfl (by decide) fl_X5_rule_19 rfl rfl dX5_rule_97 ?_
    obtain ⟨a_1, hu, hf⟩ := ob1_some hf
    refine j_callV (pc := 100) (N := 7) (qr := 1) (ci := 1) [] [] [.ref n0] [.int a_1] [(x0, .inr (5, [.ref p0, .ref n0, .ref o0, .ref t0, .ref s0, .ref im0, .ref sh0, .ref cr0, .int xLatestTorn])), (n0, .inr (1, [.int nCells, .int nSigns, .int nHour, .int nStops, .int nWaste, .int nDone, .int nBridged, .ref nKindA, .ref nRoomA, .ref nChargeA, .ref nLeakA, .ref nPlanA])), (nKindA, .inl (D.1 7, 5, .inl nKind)), (nRoomA, .inl (D.1 7, 5, .inl nRoom)), (nChargeA, .inl (D.1 7, 5, .inl nCharge)), (nLeakA, .inl (D.1 7, 5, .inl nLeak)), (nPlanA, .inl (D.1 7, 16, .inl nPlan))] [(x0, .inr (5, [.ref p0, .ref n0, .ref o0, .ref t0, .ref s0, .ref im0, .ref sh0, .ref cr0, .int xLatestTorn]))] [x0, n0, nKindA, nRoomA, nChargeA, nLeakA, nPlanA] [1, 2, 3, 4, 5, 6] [0] C (c_X1_chargesSummed D n0 nKindA nRoomA nChargeA nLeakA nPlanA nCells nSigns nHour nStops nWaste nDone nBridged nKind nRoom nCharge nLeak nPlan a_1 hu) k_X1_chargesSummed gX5_rule_X1_chargesSummed ⟨rfl, rfl⟩ ⟨Nat.le_of_ble_eq_true rfl, Nat.le_of_ble_eq_true rfl⟩ rfl rfl rfl rfl rfl rfl (Nat.le_of_ble_eq_true rfl) rfl rfl rfl rfl (by decide) (by decide) (by decide) rfl rfl rfl dX5_rule_100 ?_
    obtain rfl := si1 hf
    exact j_iret (pc := 103) C dX5_rule_103
  replace hf := (if_neg c6).symm.trans hf
  by_cases c7 : v1 = 7
  · replace hf := (if_pos c7).symm.trans hf
    refine j_tbl (pc := 1) 104 7 C (by rw [c7]; rfl) (by decide) rfl (by decide) dX5_rule_1 ?_
    refine j_aload_n (pc := 104) C 0 rfl dX5_rule_104 ?_
    refine j_get (pc := 105) 0 5 1 C iw_X5_rule_X5 rfl rfl (by decide) fl_X5_rule_19 rfl rfl dX5_rule_105 ?_
    refine j_aload_n (pc := 108) C 0 rfl dX5_rule_108 ?_
    refine j_get (pc := 109) 0 5 1 C iw_X5_rule_X5 rfl rfl (by decide) fl_X5_rule_19 rfl rfl dX5_rule_109 ?_
    obtain ⟨a_2, hu, hf⟩ := ob1_some hf
    refine j_callV (pc := 112) (N := 7) (qr := 1) (ci := 1) [] [.ref n0] [.ref n0, .ref n0] [.int a_2, .ref n0] [(x0, .inr (5, [.ref p0, .ref n0, .ref o0, .ref t0, .ref s0, .ref im0, .ref sh0, .ref cr0, .int xLatestTorn])), (n0, .inr (1, [.int nCells, .int nSigns, .int nHour, .int nStops, .int nWaste, .int nDone, .int nBridged, .ref nKindA, .ref nRoomA, .ref nChargeA, .ref nLeakA, .ref nPlanA])), (nKindA, .inl (D.1 7, 5, .inl nKind)), (nRoomA, .inl (D.1 7, 5, .inl nRoom)), (nChargeA, .inl (D.1 7, 5, .inl nCharge)), (nLeakA, .inl (D.1 7, 5, .inl nLeak)), (nPlanA, .inl (D.1 7, 16, .inl nPlan))] [(x0, .inr (5, [.ref p0, .ref n0, .ref o0, .ref t0, .ref s0, .ref im0, .ref sh0, .ref cr0, .int xLatestTorn]))] [x0, n0, nKindA, nRoomA, nChargeA, nLeakA, nPlanA] [1, 2, 3, 4, 5, 6] [0] C (c_X1_current D n0 nKindA nRoomA nChargeA nLeakA nPlanA nCells nSigns nHour nStops nWaste nDone nBridged nKind nRoom nCharge nLeak nPlan a_2 hu) k_X1_current gX5_rule_X1_current ⟨rfl, rfl⟩ ⟨Nat.le_of_ble_eq_true rfl, Nat.le_of_ble_eq_true rfl⟩ rfl rfl rfl rfl rfl rfl (Nat.le_of_ble_eq_true rfl) rfl rfl rfl rfl (by decide) (by decide) (by decide) rfl rfl rfl dX5_rule_112 ?_
    obtain ⟨a_3, hu, hf⟩ := ob1_some hf
    refine j_callV (pc := 115) (N := 7) (qr := 1) (ci := 1) [.int a_2] [] [.int a_2, .ref n0] [.int a_3] [(x0, .inr (5, [.ref p0, .ref n0, .ref o0, .ref t0, .ref s0, .ref im0, .ref sh0, .ref cr0, .int xLatestTorn])), (n0, .inr (1, [.int nCells, .int nSigns, .int nHour, .int nStops, .int nWaste, .int nDone, .int nBridged, .ref nKindA, .ref nRoomA, .ref nChargeA, .ref nLeakA, .ref nPlanA])), (nKindA, .inl (D.1 7, 5, .inl nKind)), (nRoomA, .inl (D.1 7, 5, .inl nRoom)), (nChargeA, .inl (D.1 7, 5, .inl nCharge)), (nLeakA, .inl (D.1 7, 5, .inl nLeak)), (nPlanA, .inl (D.1 7, 16, .inl nPlan))] [(x0, .inr (5, [.ref p0, .ref n0, .ref o0, .ref t0, .ref s0, .ref im0, .ref sh0, .ref cr0, .int xLatestTorn]))] [x0, n0, nKindA, nRoomA, nChargeA, nLeakA, nPlanA] [1, 2, 3, 4, 5, 6] [0] C (c_X1_stopsBy D n0 nKindA nRoomA nChargeA nLeakA nPlanA a_2 nCells nSigns nHour nStops nWaste nDone nBridged nKind nRoom nCharge nLeak nPlan a_3 hu) k_X1_stopsBy gX5_rule_X1_stopsBy ⟨rfl, rfl⟩ ⟨Nat.le_of_ble_eq_true rfl, Nat.le_of_ble_eq_true rfl⟩ rfl rfl rfl rfl rfl rfl (Nat.le_of_ble_eq_true rfl) rfl rfl rfl rfl (by decide) (by decide) (by decide) rfl rfl rfl dX5_rule_115 ?_
    refine j_if_eq (pc := 118) 125 C hf (by decide) dX5_rule_118 (fun hf => ?_) (fun hf => ?_)
    · refine j_iconst (pc := 125) 0 C (by decide) dX5_rule_125 ?_
      obtain rfl := si1 hf
      exact j_iret (pc := 126) C dX5_rule_126
    · refine j_iconst (pc := 121) 1 C (by decide) dX5_rule_121 ?_
      refine j_goto (pc := 122) 126 C (by decide) dX5_rule_122 ?_
      obtain rfl := si1 hf
      exact j_iret (pc := 126) C dX5_rule_126
  replace hf := (if_neg c7).symm.trans hf
  have e0 := lv_neT (a := 0) c0 (by decide)
  have e1 := lv_neT (a := 1) c1 (by decide)
  have e2 := lv_neT (a := 2) c2 (by decide)
  have e3 := lv_neT (a := 3) c3 (by decide)
  have e4 := lv_neT (a := 4) c4 (by decide)
  have e5 := lv_neT (a := 5) c5 (by decide)
  have e6 := lv_neT (a := 6) c6 (by decide)
  have e7 := lv_neT (a := 7) c7 (by decide)
  refine j_tbd (pc := 1) 127 C (by omega) (by decide) dX5_rule_1 ?_
  refine j_iconst (pc := 127) (-1) C (by decide) dX5_rule_127 ?_
  obtain rfl := si1 hf
  exact j_iret (pc := 128) C dX5_rule_128
theorem k_X5_rule : CK yX5_rule wsX5_rule cX5_rule 2 (some .int) 1 := ⟨rfl, by decide +kernel⟩
theorem c_X5_rule (D : va_G) (x0 p0 n0 o0 t0 s0 im0 sh0 cr0 nKindA nRoomA nChargeA nLeakA nPlanA : Nat) (v1 : Int32) (xLatestTorn : Int32) (nCells : Int32) (nSigns : Int32) (nHour : Int32) (nStops : Int32) (nWaste : Int32) (nDone : Int32) (nBridged : Int32) (nKind : Nat → Int32) (nRoom : Nat → Int32) (nCharge : Nat → Int32) (nLeak : Nat → Int32) (nPlan : Nat → Int32) (oR : Int32) (hf : f_X5_rule v1 nCells nSigns nHour nStops nWaste nDone nBridged nKind nRoom nCharge nPlan = some oR) : ∀ l, MW l yX5_rule wsX5_rule ({ frames := 2, cells := 0, slots := 0, locals := 44 } : Room) D [.ref x0, .int v1] [(x0, .inr (5, [.ref p0, .ref n0, .ref o0, .ref t0, .ref s0, .ref im0, .ref sh0, .ref cr0, .int xLatestTorn])), (n0, .inr (1, [.int nCells, .int nSigns, .int nHour, .int nStops, .int nWaste, .int nDone, .int nBridged, .ref nKindA, .ref nRoomA, .ref nChargeA, .ref nLeakA, .ref nPlanA])), (nKindA, .inl (D.1 7, 5, .inl nKind)), (nRoomA, .inl (D.1 7, 5, .inl nRoom)), (nChargeA, .inl (D.1 7, 5, .inl nCharge)), (nLeakA, .inl (D.1 7, 5, .inl nLeak)), (nPlanA, .inl (D.1 7, 16, .inl nPlan))] (some (.int oR)) [(x0, .inr (5, [.ref p0, .ref n0, .ref o0, .ref t0, .ref s0, .ref im0, .ref sh0, .ref cr0, .int xLatestTorn])), (n0, .inr (1, [.int nCells, .int nSigns, .int nHour, .int nStops, .int nWaste, .int nDone, .int nBridged, .ref nKindA, .ref nRoomA, .ref nChargeA, .ref nLeakA, .ref nPlanA])), (nKindA, .inl (D.1 7, 5, .inl nKind)), (nRoomA, .inl (D.1 7, 5, .inl nRoom)), (nChargeA, .inl (D.1 7, 5, .inl nCharge)), (nLeakA, .inl (D.1 7, 5, .inl nLeak)), (nPlanA, .inl (D.1 7, 16, .inl nPlan))] := j_met (cc := cX5_rule) (nl := 2) (rt := (some .int)) (own := RX5) (lv := [(0, .ref x0), (1, .int v1)]) (by decide +kernel) rfl rfl rfl (Nat.le_of_ble_eq_true rfl) (fun G C => t_X5_rule_0 C hf)

-- X5_isCell
theorem fl_X5_isCell_19 : Cond.fieldLink RX5 19 "CellsInRow" "now" "LCellsInRow$Row;" ∈ wsX5_isCell := by decide +kernel
theorem iw_X5_isCell_X5 : ∀ w ∈ wsX50, w ∈ wsX5_isCell := by decide +kernel
theorem fl_X5_isCell_84 : Cond.fieldLink RX5 84 "CellsInRow$Row" "cells" "I" ∈ wsX5_isCell := by decide +kernel
theorem iw_X5_isCell_X1 : ∀ w ∈ wsX10, w ∈ wsX5_isCell := by decide +kernel
set_option maxHeartbeats 4000000 in
set_option maxRecDepth 100000 in
theorem t_X5_isCell_0 {G : jX} {D : va_G} {x0 p0 n0 o0 t0 s0 im0 sh0 cr0 nKindA nRoomA nChargeA nLeakA nPlanA : Nat} {v1 : Int32} {xLatestTorn : Int32} {nCells : Int32} {nSigns : Int32} {nHour : Int32} {nStops : Int32} {nWaste : Int32} {nDone : Int32} {nBridged : Int32} {nKind : Nat → Int32} {nRoom : Nat → Int32} {nCharge : Nat → Int32} {nLeak : Nat → Int32} {nPlan : Nat → Int32} {oR : Int32} (C : KC G D cX5_isCell RX5 wsX5_isCell ({ frames := 0, cells := 0, slots := 0, locals := 0 } : Room) 2 (some .boolean) (some (.int oR)) [(x0, .inr (5, [.ref p0, .ref n0, .ref o0, .ref t0, .ref s0, .ref im0, .ref sh0, .ref cr0, .int xLatestTorn])), (n0, .inr (1, [.int nCells, .int nSigns, .int nHour, .int nStops, .int nWaste, .int nDone, .int nBridged, .ref nKindA, .ref nRoomA, .ref nChargeA, .ref nLeakA, .ref nPlanA])), (nKindA, .inl (D.1 7, 5, .inl nKind)), (nRoomA, .inl (D.1 7, 5, .inl nRoom)), (nChargeA, .inl (D.1 7, 5, .inl nCharge)), (nLeakA, .inl (D.1 7, 5, .inl nLeak)), (nPlanA, .inl (D.1 7, 16, .inl nPlan))]) (hf : f_X5_isCell v1 nCells = some oR) : JW G D 0 [(0, .ref x0), (1, .int v1)] [] [(x0, .inr (5, [.ref p0, .ref n0, .ref o0, .ref t0, .ref s0, .ref im0, .ref sh0, .ref cr0, .int xLatestTorn])), (n0, .inr (1, [.int nCells, .int nSigns, .int nHour, .int nStops, .int nWaste, .int nDone, .int nBridged, .ref nKindA, .ref nRoomA, .ref nChargeA, .ref nLeakA, .ref nPlanA])), (nKindA, .inl (D.1 7, 5, .inl nKind)), (nRoomA, .inl (D.1 7, 5, .inl nRoom)), (nChargeA, .inl (D.1 7, 5, .inl nCharge)), (nLeakA, .inl (D.1 7, 5, .inl nLeak)), (nPlanA, .inl (D.1 7, 16, .inl nPlan))] := by
  unfold f_X5_isCell at hf
  refine j_iload_n (pc := 0) C 1 rfl dX5_isCell_0 ?_
  refine j_if_lt (pc := 1) 19 C hf (by decide) dX5_isCell_1 (fun hf => ?_) (fun hf => ?_)
  · refine j_iconst (pc := 19) 0 C (by decide) dX5_isCell_19 ?_
    obtain rfl := si1 hf
    exact j_zret (pc := 20) C (by decide) dX5_isCell_20
  · refine j_iload_n (pc := 4) C 1 rfl dX5_isCell_4 ?_
    refine j_aload_n (pc := 5) C 0 rfl dX5_isCell_5 ?_
    refine j_get (pc := 6) 0 5 1 C iw_X5_isCell_X5 rfl rfl (by decide) fl_X5_isCell_19 rfl rfl dX5_isCell_6 ?_
    refine j_get (pc := 9) 1 1 0 C iw_X5_isCell_X1 rfl rfl (by decide) fl_X5_isCell_84 rfl rfl dX5_isCell_9 ?_
    refine j_icmp_ge (pc := 12) 19 C hf (by decide) dX5_isCell_12 (fun hf => ?_) (fun hf => ?_)
    · refine j_iconst (pc := 19) 0 C (by decide) dX5_isCell_19 ?_
      obtain rfl := si1 hf
      exact j_zret (pc := 20) C (by decide) dX5_isCell_20
    · refine j_iconst (pc := 15) 1 C (by decide) dX5_isCell_15 ?_
      refine j_goto (pc := 16) 20 C (by decide) dX5_isCell_16 ?_
      obtain rfl := si1 hf
      exact j_zret (pc := 20) C (by decide) dX5_isCell_20
theorem k_X5_isCell : CK yX5_isCell wsX5_isCell cX5_isCell 2 (some .boolean) 1 := ⟨rfl, by decide +kernel⟩
theorem c_X5_isCell (D : va_G) (x0 p0 n0 o0 t0 s0 im0 sh0 cr0 nKindA nRoomA nChargeA nLeakA nPlanA : Nat) (v1 : Int32) (xLatestTorn : Int32) (nCells : Int32) (nSigns : Int32) (nHour : Int32) (nStops : Int32) (nWaste : Int32) (nDone : Int32) (nBridged : Int32) (nKind : Nat → Int32) (nRoom : Nat → Int32) (nCharge : Nat → Int32) (nLeak : Nat → Int32) (nPlan : Nat → Int32) (oR : Int32) (hf : f_X5_isCell v1 nCells = some oR) : ∀ l, MW l yX5_isCell wsX5_isCell ({ frames := 0, cells := 0, slots := 0, locals := 0 } : Room) D [.ref x0, .int v1] [(x0, .inr (5, [.ref p0, .ref n0, .ref o0, .ref t0, .ref s0, .ref im0, .ref sh0, .ref cr0, .int xLatestTorn])), (n0, .inr (1, [.int nCells, .int nSigns, .int nHour, .int nStops, .int nWaste, .int nDone, .int nBridged, .ref nKindA, .ref nRoomA, .ref nChargeA, .ref nLeakA, .ref nPlanA])), (nKindA, .inl (D.1 7, 5, .inl nKind)), (nRoomA, .inl (D.1 7, 5, .inl nRoom)), (nChargeA, .inl (D.1 7, 5, .inl nCharge)), (nLeakA, .inl (D.1 7, 5, .inl nLeak)), (nPlanA, .inl (D.1 7, 16, .inl nPlan))] (some (.int oR)) [(x0, .inr (5, [.ref p0, .ref n0, .ref o0, .ref t0, .ref s0, .ref im0, .ref sh0, .ref cr0, .int xLatestTorn])), (n0, .inr (1, [.int nCells, .int nSigns, .int nHour, .int nStops, .int nWaste, .int nDone, .int nBridged, .ref nKindA, .ref nRoomA, .ref nChargeA, .ref nLeakA, .ref nPlanA])), (nKindA, .inl (D.1 7, 5, .inl nKind)), (nRoomA, .inl (D.1 7, 5, .inl nRoom)), (nChargeA, .inl (D.1 7, 5, .inl nCharge)), (nLeakA, .inl (D.1 7, 5, .inl nLeak)), (nPlanA, .inl (D.1 7, 16, .inl nPlan))] := j_met (cc := cX5_isCell) (nl := 2) (rt := (some .boolean)) (own := RX5) (lv := [(0, .ref x0), (1, .int v1)]) (by decide +kernel) rfl rfl rfl (Nat.le_of_ble_eq_true rfl) (fun G C => t_X5_isCell_0 C hf)

-- X5_unit
theorem fl_X5_unit_19 : Cond.fieldLink RX5 19 "CellsInRow" "now" "LCellsInRow$Row;" ∈ wsX5_unit := by decide +kernel
theorem iw_X5_unit_X5 : ∀ w ∈ wsX50, w ∈ wsX5_unit := by decide +kernel
theorem fl_X5_unit_116 : Cond.fieldLink RX5 116 "CellsInRow$Row" "kind" "[I" ∈ wsX5_unit := by decide +kernel
theorem iw_X5_unit_X1 : ∀ w ∈ wsX10, w ∈ wsX5_unit := by decide +kernel
theorem fl_X5_unit_119 : Cond.fieldLink RX5 119 "CellsInRow$Row" "room" "[I" ∈ wsX5_unit := by decide +kernel
theorem fl_X5_unit_122 : Cond.fieldLink RX5 122 "CellsInRow$Row" "charge" "[I" ∈ wsX5_unit := by decide +kernel
theorem fl_X5_unit_125 : Cond.fieldLink RX5 125 "CellsInRow$Row" "leak" "[I" ∈ wsX5_unit := by decide +kernel
set_option maxHeartbeats 4000000 in
set_option maxRecDepth 100000 in
theorem t_X5_unit_0 {G : jX} {D : va_G} {x0 p0 n0 o0 t0 s0 im0 sh0 cr0 nKindA nRoomA nChargeA nLeakA nPlanA : Nat} {v1 : Int32} {v2 : Int32} {xLatestTorn : Int32} {nCells : Int32} {nSigns : Int32} {nHour : Int32} {nStops : Int32} {nWaste : Int32} {nDone : Int32} {nBridged : Int32} {nKind : Nat → Int32} {nRoom : Nat → Int32} {nCharge : Nat → Int32} {nLeak : Nat → Int32} {nPlan : Nat → Int32} {oR : Int32} (C : KC G D cX5_unit RX5 wsX5_unit ({ frames := 1, cells := 0, slots := 0, locals := 21 } : Room) 3 (some .int) (some (.int oR)) [(x0, .inr (5, [.ref p0, .ref n0, .ref o0, .ref t0, .ref s0, .ref im0, .ref sh0, .ref cr0, .int xLatestTorn])), (n0, .inr (1, [.int nCells, .int nSigns, .int nHour, .int nStops, .int nWaste, .int nDone, .int nBridged, .ref nKindA, .ref nRoomA, .ref nChargeA, .ref nLeakA, .ref nPlanA])), (nKindA, .inl (D.1 7, 5, .inl nKind)), (nRoomA, .inl (D.1 7, 5, .inl nRoom)), (nChargeA, .inl (D.1 7, 5, .inl nCharge)), (nLeakA, .inl (D.1 7, 5, .inl nLeak)), (nPlanA, .inl (D.1 7, 16, .inl nPlan))]) (hf : f_X5_unit v1 v2 nCells nKind nRoom nCharge nLeak = some oR) : JW G D 0 [(0, .ref x0), (1, .int v1), (2, .int v2)] [] [(x0, .inr (5, [.ref p0, .ref n0, .ref o0, .ref t0, .ref s0, .ref im0, .ref sh0, .ref cr0, .int xLatestTorn])), (n0, .inr (1, [.int nCells, .int nSigns, .int nHour, .int nStops, .int nWaste, .int nDone, .int nBridged, .ref nKindA, .ref nRoomA, .ref nChargeA, .ref nLeakA, .ref nPlanA])), (nKindA, .inl (D.1 7, 5, .inl nKind)), (nRoomA, .inl (D.1 7, 5, .inl nRoom)), (nChargeA, .inl (D.1 7, 5, .inl nCharge)), (nLeakA, .inl (D.1 7, 5, .inl nLeak)), (nPlanA, .inl (D.1 7, 16, .inl nPlan))] := by
  unfold f_X5_unit at hf
  refine j_aload_n (pc := 0) C 0 rfl dX5_unit_0 ?_
  refine j_iload_n (pc := 1) C 1 rfl dX5_unit_1 ?_
  obtain ⟨a_1, hu, hf⟩ := ob1_some hf
  refine j_callV (pc := 2) (N := 7) (qr := 0) (ci := 5) [.int v1] [] [.int v1, .ref x0] [.int a_1] [(x0, .inr (5, [.ref p0, .ref n0, .ref o0, .ref t0, .ref s0, .ref im0, .ref sh0, .ref cr0, .int xLatestTorn])), (n0, .inr (1, [.int nCells, .int nSigns, .int nHour, .int nStops, .int nWaste, .int nDone, .int nBridged, .ref nKindA, .ref nRoomA, .ref nChargeA, .ref nLeakA, .ref nPlanA])), (nKindA, .inl (D.1 7, 5, .inl nKind)), (nRoomA, .inl (D.1 7, 5, .inl nRoom)), (nChargeA, .inl (D.1 7, 5, .inl nCharge)), (nLeakA, .inl (D.1 7, 5, .inl nLeak)), (nPlanA, .inl (D.1 7, 16, .inl nPlan))] [] [x0, n0, nKindA, nRoomA, nChargeA, nLeakA, nPlanA] [0, 1, 2, 3, 4, 5, 6] [] C (c_X5_isCell D x0 p0 n0 o0 t0 s0 im0 sh0 cr0 nKindA nRoomA nChargeA nLeakA nPlanA v1 xLatestTorn nCells nSigns nHour nStops nWaste nDone nBridged nKind nRoom nCharge nLeak nPlan a_1 hu) k_X5_isCell gX5_unit_X5_isCell ⟨rfl, rfl⟩ ⟨Nat.le_of_ble_eq_true rfl, Nat.le_of_ble_eq_true rfl⟩ rfl rfl rfl rfl rfl rfl (Nat.le_of_ble_eq_true rfl) rfl rfl rfl rfl (by decide) (by decide) (by decide) rfl rfl rfl dX5_unit_2 ?_
  refine j_if_ne (pc := 5) 10 C hf (by decide) dX5_unit_5 (fun hf => ?_) (fun hf => ?_)
  · refine j_iload_n (pc := 10) C 2 rfl dX5_unit_10 ?_
    by_cases c0 : v2 = 0
    · replace hf := (if_pos c0).symm.trans hf
      refine j_tbl (pc := 11) 40 0 C (by rw [c0]; rfl) (by decide) rfl (by decide) dX5_unit_11 ?_
      refine j_aload_n (pc := 40) C 0 rfl dX5_unit_40 ?_
      refine j_get (pc := 41) 0 5 1 C iw_X5_unit_X5 rfl rfl (by decide) fl_X5_unit_19 rfl rfl dX5_unit_41 ?_
      refine j_get (pc := 44) 1 1 7 C iw_X5_unit_X1 rfl rfl (by decide) fl_X5_unit_116 rfl rfl dX5_unit_44 ?_
      refine j_iload_n (pc := 47) C 1 rfl dX5_unit_47 ?_
      refine j_iald (pc := 48) 2 C rfl hf dX5_unit_48 (fun hf => ?_)
      obtain rfl := si1 hf
      exact j_iret (pc := 49) C dX5_unit_49
    replace hf := (if_neg c0).symm.trans hf
    by_cases c1 : v2 = 1
    · replace hf := (if_pos c1).symm.trans hf
      refine j_tbl (pc := 11) 50 1 C (by rw [c1]; rfl) (by decide) rfl (by decide) dX5_unit_11 ?_
      refine j_aload_n (pc := 50) C 0 rfl dX5_unit_50 ?_
      refine j_get (pc := 51) 0 5 1 C iw_X5_unit_X5 rfl rfl (by decide) fl_X5_unit_19 rfl rfl dX5_unit_51 ?_
      refine j_get (pc := 54) 1 1 8 C iw_X5_unit_X1 rfl rfl (by decide) fl_X5_unit_119 rfl rfl dX5_unit_54 ?_
      refine j_iload_n (pc := 57) C 1 rfl dX5_unit_57 ?_
      refine j_iald (pc := 58) 3 C rfl hf dX5_unit_58 (fun hf => ?_)
      obtain rfl := si1 hf
      exact j_iret (pc := 59) C dX5_unit_59
    replace hf := (if_neg c1).symm.trans hf
    by_cases c2 : v2 = 2
    · replace hf := (if_pos c2).symm.trans hf
      refine j_tbl (pc := 11) 60 2 C (by rw [c2]; rfl) (by decide) rfl (by decide) dX5_unit_11 ?_
      refine j_aload_n (pc := 60) C 0 rfl dX5_unit_60 ?_
      refine j_get (pc := 61) 0 5 1 C iw_X5_unit_X5 rfl rfl (by decide) fl_X5_unit_19 rfl rfl dX5_unit_61 ?_
      refine j_get (pc := 64) 1 1 9 C iw_X5_unit_X1 rfl rfl (by decide) fl_X5_unit_122 rfl rfl dX5_unit_64 ?_
      refine j_iload_n (pc := 67) C 1 rfl dX5_unit_67 ?_
      refine j_iald (pc := 68) 4 C rfl hf dX5_unit_68 (fun hf => ?_)
      obtain rfl := si1 hf
      exact j_iret (pc := 69) C dX5_unit_69
    replace hf := (if_neg c2).symm.trans hf
    by_cases c3 : v2 = 3
    · replace hf := (if_pos c3).symm.trans hf
      refine j_tbl (pc := 11) 70 3 C (by rw [c3]; rfl) (by decide) rfl (by decide) dX5_unit_11 ?_
      refine j_aload_n (pc := 70) C 0 rfl dX5_unit_70 ?_
      refine j_get (pc := 71) 0 5 1 C iw_X5_unit_X5 rfl rfl (by decide) fl_X5_unit_19 rfl rfl dX5_unit_71 ?_
      refine j_get (pc := 74) 1 1 10 C iw_X5_unit_X1 rfl rfl (by decide) fl_X5_unit_125 rfl rfl dX5_unit_74 ?_
      refine j_iload_n (pc := 77) C 1 rfl dX5_unit_77 ?_
      refine j_iald (pc := 78) 5 C rfl hf dX5_unit_78 (fun hf => ?_)
      obtain rfl := si1 hf
      exact j_iret (pc := 79) C dX5_unit_79
    replace hf := (if_neg c3).symm.trans hf
    have e0 := lv_neT (a := 0) c0 (by decide)
    have e1 := lv_neT (a := 1) c1 (by decide)
    have e2 := lv_neT (a := 2) c2 (by decide)
    have e3 := lv_neT (a := 3) c3 (by decide)
    refine j_tbd (pc := 11) 80 C (by omega) (by decide) dX5_unit_11 ?_
    refine j_iconst (pc := 80) (-1) C (by decide) dX5_unit_80 ?_
    obtain rfl := si1 hf
    exact j_iret (pc := 81) C dX5_unit_81
  · refine j_iconst (pc := 8) (-1) C (by decide) dX5_unit_8 ?_
    obtain rfl := si1 hf
    exact j_iret (pc := 9) C dX5_unit_9
theorem k_X5_unit : CK yX5_unit wsX5_unit cX5_unit 3 (some .int) 2 := ⟨rfl, by decide +kernel⟩
theorem c_X5_unit (D : va_G) (x0 p0 n0 o0 t0 s0 im0 sh0 cr0 nKindA nRoomA nChargeA nLeakA nPlanA : Nat) (v1 : Int32) (v2 : Int32) (xLatestTorn : Int32) (nCells : Int32) (nSigns : Int32) (nHour : Int32) (nStops : Int32) (nWaste : Int32) (nDone : Int32) (nBridged : Int32) (nKind : Nat → Int32) (nRoom : Nat → Int32) (nCharge : Nat → Int32) (nLeak : Nat → Int32) (nPlan : Nat → Int32) (oR : Int32) (hf : f_X5_unit v1 v2 nCells nKind nRoom nCharge nLeak = some oR) : ∀ l, MW l yX5_unit wsX5_unit ({ frames := 1, cells := 0, slots := 0, locals := 21 } : Room) D [.ref x0, .int v1, .int v2] [(x0, .inr (5, [.ref p0, .ref n0, .ref o0, .ref t0, .ref s0, .ref im0, .ref sh0, .ref cr0, .int xLatestTorn])), (n0, .inr (1, [.int nCells, .int nSigns, .int nHour, .int nStops, .int nWaste, .int nDone, .int nBridged, .ref nKindA, .ref nRoomA, .ref nChargeA, .ref nLeakA, .ref nPlanA])), (nKindA, .inl (D.1 7, 5, .inl nKind)), (nRoomA, .inl (D.1 7, 5, .inl nRoom)), (nChargeA, .inl (D.1 7, 5, .inl nCharge)), (nLeakA, .inl (D.1 7, 5, .inl nLeak)), (nPlanA, .inl (D.1 7, 16, .inl nPlan))] (some (.int oR)) [(x0, .inr (5, [.ref p0, .ref n0, .ref o0, .ref t0, .ref s0, .ref im0, .ref sh0, .ref cr0, .int xLatestTorn])), (n0, .inr (1, [.int nCells, .int nSigns, .int nHour, .int nStops, .int nWaste, .int nDone, .int nBridged, .ref nKindA, .ref nRoomA, .ref nChargeA, .ref nLeakA, .ref nPlanA])), (nKindA, .inl (D.1 7, 5, .inl nKind)), (nRoomA, .inl (D.1 7, 5, .inl nRoom)), (nChargeA, .inl (D.1 7, 5, .inl nCharge)), (nLeakA, .inl (D.1 7, 5, .inl nLeak)), (nPlanA, .inl (D.1 7, 16, .inl nPlan))] := j_met (cc := cX5_unit) (nl := 3) (rt := (some .int)) (own := RX5) (lv := [(0, .ref x0), (1, .int v1), (2, .int v2)]) (by decide +kernel) rfl rfl rfl (Nat.le_of_ble_eq_true rfl) (fun G C => t_X5_unit_0 C hf)

-- X5_isSign
theorem fl_X5_isSign_19 : Cond.fieldLink RX5 19 "CellsInRow" "now" "LCellsInRow$Row;" ∈ wsX5_isSign := by decide +kernel
theorem iw_X5_isSign_X5 : ∀ w ∈ wsX50, w ∈ wsX5_isSign := by decide +kernel
theorem fl_X5_isSign_87 : Cond.fieldLink RX5 87 "CellsInRow$Row" "signs" "I" ∈ wsX5_isSign := by decide +kernel
theorem iw_X5_isSign_X1 : ∀ w ∈ wsX10, w ∈ wsX5_isSign := by decide +kernel
set_option maxHeartbeats 4000000 in
set_option maxRecDepth 100000 in
theorem t_X5_isSign_0 {G : jX} {D : va_G} {x0 p0 n0 o0 t0 s0 im0 sh0 cr0 nKindA nRoomA nChargeA nLeakA nPlanA : Nat} {v1 : Int32} {xLatestTorn : Int32} {nCells : Int32} {nSigns : Int32} {nHour : Int32} {nStops : Int32} {nWaste : Int32} {nDone : Int32} {nBridged : Int32} {nKind : Nat → Int32} {nRoom : Nat → Int32} {nCharge : Nat → Int32} {nLeak : Nat → Int32} {nPlan : Nat → Int32} {oR : Int32} (C : KC G D cX5_isSign RX5 wsX5_isSign ({ frames := 0, cells := 0, slots := 0, locals := 0 } : Room) 2 (some .boolean) (some (.int oR)) [(x0, .inr (5, [.ref p0, .ref n0, .ref o0, .ref t0, .ref s0, .ref im0, .ref sh0, .ref cr0, .int xLatestTorn])), (n0, .inr (1, [.int nCells, .int nSigns, .int nHour, .int nStops, .int nWaste, .int nDone, .int nBridged, .ref nKindA, .ref nRoomA, .ref nChargeA, .ref nLeakA, .ref nPlanA])), (nKindA, .inl (D.1 7, 5, .inl nKind)), (nRoomA, .inl (D.1 7, 5, .inl nRoom)), (nChargeA, .inl (D.1 7, 5, .inl nCharge)), (nLeakA, .inl (D.1 7, 5, .inl nLeak)), (nPlanA, .inl (D.1 7, 16, .inl nPlan))]) (hf : f_X5_isSign v1 nSigns = some oR) : JW G D 0 [(0, .ref x0), (1, .int v1)] [] [(x0, .inr (5, [.ref p0, .ref n0, .ref o0, .ref t0, .ref s0, .ref im0, .ref sh0, .ref cr0, .int xLatestTorn])), (n0, .inr (1, [.int nCells, .int nSigns, .int nHour, .int nStops, .int nWaste, .int nDone, .int nBridged, .ref nKindA, .ref nRoomA, .ref nChargeA, .ref nLeakA, .ref nPlanA])), (nKindA, .inl (D.1 7, 5, .inl nKind)), (nRoomA, .inl (D.1 7, 5, .inl nRoom)), (nChargeA, .inl (D.1 7, 5, .inl nCharge)), (nLeakA, .inl (D.1 7, 5, .inl nLeak)), (nPlanA, .inl (D.1 7, 16, .inl nPlan))] := by
  unfold f_X5_isSign at hf
  refine j_iload_n (pc := 0) C 1 rfl dX5_isSign_0 ?_
  refine j_if_lt (pc := 1) 19 C hf (by decide) dX5_isSign_1 (fun hf => ?_) (fun hf => ?_)
  · refine j_iconst (pc := 19) 0 C (by decide) dX5_isSign_19 ?_
    obtain rfl := si1 hf
    exact j_zret (pc := 20) C (by decide) dX5_isSign_20
  · refine j_iload_n (pc := 4) C 1 rfl dX5_isSign_4 ?_
    refine j_aload_n (pc := 5) C 0 rfl dX5_isSign_5 ?_
    refine j_get (pc := 6) 0 5 1 C iw_X5_isSign_X5 rfl rfl (by decide) fl_X5_isSign_19 rfl rfl dX5_isSign_6 ?_
    refine j_get (pc := 9) 1 1 1 C iw_X5_isSign_X1 rfl rfl (by decide) fl_X5_isSign_87 rfl rfl dX5_isSign_9 ?_
    refine j_icmp_ge (pc := 12) 19 C hf (by decide) dX5_isSign_12 (fun hf => ?_) (fun hf => ?_)
    · refine j_iconst (pc := 19) 0 C (by decide) dX5_isSign_19 ?_
      obtain rfl := si1 hf
      exact j_zret (pc := 20) C (by decide) dX5_isSign_20
    · refine j_iconst (pc := 15) 1 C (by decide) dX5_isSign_15 ?_
      refine j_goto (pc := 16) 20 C (by decide) dX5_isSign_16 ?_
      obtain rfl := si1 hf
      exact j_zret (pc := 20) C (by decide) dX5_isSign_20
theorem k_X5_isSign : CK yX5_isSign wsX5_isSign cX5_isSign 2 (some .boolean) 1 := ⟨rfl, by decide +kernel⟩
theorem c_X5_isSign (D : va_G) (x0 p0 n0 o0 t0 s0 im0 sh0 cr0 nKindA nRoomA nChargeA nLeakA nPlanA : Nat) (v1 : Int32) (xLatestTorn : Int32) (nCells : Int32) (nSigns : Int32) (nHour : Int32) (nStops : Int32) (nWaste : Int32) (nDone : Int32) (nBridged : Int32) (nKind : Nat → Int32) (nRoom : Nat → Int32) (nCharge : Nat → Int32) (nLeak : Nat → Int32) (nPlan : Nat → Int32) (oR : Int32) (hf : f_X5_isSign v1 nSigns = some oR) : ∀ l, MW l yX5_isSign wsX5_isSign ({ frames := 0, cells := 0, slots := 0, locals := 0 } : Room) D [.ref x0, .int v1] [(x0, .inr (5, [.ref p0, .ref n0, .ref o0, .ref t0, .ref s0, .ref im0, .ref sh0, .ref cr0, .int xLatestTorn])), (n0, .inr (1, [.int nCells, .int nSigns, .int nHour, .int nStops, .int nWaste, .int nDone, .int nBridged, .ref nKindA, .ref nRoomA, .ref nChargeA, .ref nLeakA, .ref nPlanA])), (nKindA, .inl (D.1 7, 5, .inl nKind)), (nRoomA, .inl (D.1 7, 5, .inl nRoom)), (nChargeA, .inl (D.1 7, 5, .inl nCharge)), (nLeakA, .inl (D.1 7, 5, .inl nLeak)), (nPlanA, .inl (D.1 7, 16, .inl nPlan))] (some (.int oR)) [(x0, .inr (5, [.ref p0, .ref n0, .ref o0, .ref t0, .ref s0, .ref im0, .ref sh0, .ref cr0, .int xLatestTorn])), (n0, .inr (1, [.int nCells, .int nSigns, .int nHour, .int nStops, .int nWaste, .int nDone, .int nBridged, .ref nKindA, .ref nRoomA, .ref nChargeA, .ref nLeakA, .ref nPlanA])), (nKindA, .inl (D.1 7, 5, .inl nKind)), (nRoomA, .inl (D.1 7, 5, .inl nRoom)), (nChargeA, .inl (D.1 7, 5, .inl nCharge)), (nLeakA, .inl (D.1 7, 5, .inl nLeak)), (nPlanA, .inl (D.1 7, 16, .inl nPlan))] := j_met (cc := cX5_isSign) (nl := 2) (rt := (some .boolean)) (own := RX5) (lv := [(0, .ref x0), (1, .int v1)]) (by decide +kernel) rfl rfl rfl (Nat.le_of_ble_eq_true rfl) (fun G C => t_X5_isSign_0 C hf)

-- X5_sign
theorem fl_X5_sign_19 : Cond.fieldLink RX5 19 "CellsInRow" "now" "LCellsInRow$Row;" ∈ wsX5_sign := by decide +kernel
theorem iw_X5_sign_X5 : ∀ w ∈ wsX50, w ∈ wsX5_sign := by decide +kernel
theorem fl_X5_sign_131 : Cond.fieldLink RX5 131 "CellsInRow$Row" "plan" "[I" ∈ wsX5_sign := by decide +kernel
theorem iw_X5_sign_X1 : ∀ w ∈ wsX10, w ∈ wsX5_sign := by decide +kernel
set_option maxHeartbeats 4000000 in
set_option maxRecDepth 100000 in
theorem t_X5_sign_0 {G : jX} {D : va_G} {x0 p0 n0 o0 t0 s0 im0 sh0 cr0 nKindA nRoomA nChargeA nLeakA nPlanA : Nat} {v1 : Int32} {xLatestTorn : Int32} {nCells : Int32} {nSigns : Int32} {nHour : Int32} {nStops : Int32} {nWaste : Int32} {nDone : Int32} {nBridged : Int32} {nKind : Nat → Int32} {nRoom : Nat → Int32} {nCharge : Nat → Int32} {nLeak : Nat → Int32} {nPlan : Nat → Int32} {oR : Int32} (C : KC G D cX5_sign RX5 wsX5_sign ({ frames := 1, cells := 0, slots := 0, locals := 21 } : Room) 2 (some .int) (some (.int oR)) [(x0, .inr (5, [.ref p0, .ref n0, .ref o0, .ref t0, .ref s0, .ref im0, .ref sh0, .ref cr0, .int xLatestTorn])), (n0, .inr (1, [.int nCells, .int nSigns, .int nHour, .int nStops, .int nWaste, .int nDone, .int nBridged, .ref nKindA, .ref nRoomA, .ref nChargeA, .ref nLeakA, .ref nPlanA])), (nKindA, .inl (D.1 7, 5, .inl nKind)), (nRoomA, .inl (D.1 7, 5, .inl nRoom)), (nChargeA, .inl (D.1 7, 5, .inl nCharge)), (nLeakA, .inl (D.1 7, 5, .inl nLeak)), (nPlanA, .inl (D.1 7, 16, .inl nPlan))]) (hf : f_X5_sign v1 nSigns nPlan = some oR) : JW G D 0 [(0, .ref x0), (1, .int v1)] [] [(x0, .inr (5, [.ref p0, .ref n0, .ref o0, .ref t0, .ref s0, .ref im0, .ref sh0, .ref cr0, .int xLatestTorn])), (n0, .inr (1, [.int nCells, .int nSigns, .int nHour, .int nStops, .int nWaste, .int nDone, .int nBridged, .ref nKindA, .ref nRoomA, .ref nChargeA, .ref nLeakA, .ref nPlanA])), (nKindA, .inl (D.1 7, 5, .inl nKind)), (nRoomA, .inl (D.1 7, 5, .inl nRoom)), (nChargeA, .inl (D.1 7, 5, .inl nCharge)), (nLeakA, .inl (D.1 7, 5, .inl nLeak)), (nPlanA, .inl (D.1 7, 16, .inl nPlan))] := by
  unfold f_X5_sign at hf
  refine j_aload_n (pc := 0) C 0 rfl dX5_sign_0 ?_
  refine j_iload_n (pc := 1) C 1 rfl dX5_sign_1 ?_
  obtain ⟨a_1, hu, hf⟩ := ob1_some hf
  refine j_callV (pc := 2) (N := 7) (qr := 0) (ci := 5) [.int v1] [] [.int v1, .ref x0] [.int a_1] [(x0, .inr (5, [.ref p0, .ref n0, .ref o0, .ref t0, .ref s0, .ref im0, .ref sh0, .ref cr0, .int xLatestTorn])), (n0, .inr (1, [.int nCells, .int nSigns, .int nHour, .int nStops, .int nWaste, .int nDone, .int nBridged, .ref nKindA, .ref nRoomA, .ref nChargeA, .ref nLeakA, .ref nPlanA])), (nKindA, .inl (D.1 7, 5, .inl nKind)), (nRoomA, .inl (D.1 7, 5, .inl nRoom)), (nChargeA, .inl (D.1 7, 5, .inl nCharge)), (nLeakA, .inl (D.1 7, 5, .inl nLeak)), (nPlanA, .inl (D.1 7, 16, .inl nPlan))] [] [x0, n0, nKindA, nRoomA, nChargeA, nLeakA, nPlanA] [0, 1, 2, 3, 4, 5, 6] [] C (c_X5_isSign D x0 p0 n0 o0 t0 s0 im0 sh0 cr0 nKindA nRoomA nChargeA nLeakA nPlanA v1 xLatestTorn nCells nSigns nHour nStops nWaste nDone nBridged nKind nRoom nCharge nLeak nPlan a_1 hu) k_X5_isSign gX5_sign_X5_isSign ⟨rfl, rfl⟩ ⟨Nat.le_of_ble_eq_true rfl, Nat.le_of_ble_eq_true rfl⟩ rfl rfl rfl rfl rfl rfl (Nat.le_of_ble_eq_true rfl) rfl rfl rfl rfl (by decide) (by decide) (by decide) rfl rfl rfl dX5_sign_2 ?_
  refine j_if_eq (pc := 5) 20 C hf (by decide) dX5_sign_5 (fun hf => ?_) (fun hf => ?_)
  · refine j_iconst (pc := 20) (-1) C (by decide) dX5_sign_20 ?_
    obtain rfl := si1 hf
    exact j_iret (pc := 21) C dX5_sign_21
  · refine j_aload_n (pc := 8) C 0 rfl dX5_sign_8 ?_
    refine j_get (pc := 9) 0 5 1 C iw_X5_sign_X5 rfl rfl (by decide) fl_X5_sign_19 rfl rfl dX5_sign_9 ?_
    refine j_get (pc := 12) 1 1 11 C iw_X5_sign_X1 rfl rfl (by decide) fl_X5_sign_131 rfl rfl dX5_sign_12 ?_
    refine j_iload_n (pc := 15) C 1 rfl dX5_sign_15 ?_
    refine j_iald (pc := 16) 6 C rfl hf dX5_sign_16 (fun hf => ?_)
    refine j_goto (pc := 17) 21 C (by decide) dX5_sign_17 ?_
    obtain rfl := si1 hf
    exact j_iret (pc := 21) C dX5_sign_21
theorem k_X5_sign : CK yX5_sign wsX5_sign cX5_sign 2 (some .int) 1 := ⟨rfl, by decide +kernel⟩
theorem c_X5_sign (D : va_G) (x0 p0 n0 o0 t0 s0 im0 sh0 cr0 nKindA nRoomA nChargeA nLeakA nPlanA : Nat) (v1 : Int32) (xLatestTorn : Int32) (nCells : Int32) (nSigns : Int32) (nHour : Int32) (nStops : Int32) (nWaste : Int32) (nDone : Int32) (nBridged : Int32) (nKind : Nat → Int32) (nRoom : Nat → Int32) (nCharge : Nat → Int32) (nLeak : Nat → Int32) (nPlan : Nat → Int32) (oR : Int32) (hf : f_X5_sign v1 nSigns nPlan = some oR) : ∀ l, MW l yX5_sign wsX5_sign ({ frames := 1, cells := 0, slots := 0, locals := 21 } : Room) D [.ref x0, .int v1] [(x0, .inr (5, [.ref p0, .ref n0, .ref o0, .ref t0, .ref s0, .ref im0, .ref sh0, .ref cr0, .int xLatestTorn])), (n0, .inr (1, [.int nCells, .int nSigns, .int nHour, .int nStops, .int nWaste, .int nDone, .int nBridged, .ref nKindA, .ref nRoomA, .ref nChargeA, .ref nLeakA, .ref nPlanA])), (nKindA, .inl (D.1 7, 5, .inl nKind)), (nRoomA, .inl (D.1 7, 5, .inl nRoom)), (nChargeA, .inl (D.1 7, 5, .inl nCharge)), (nLeakA, .inl (D.1 7, 5, .inl nLeak)), (nPlanA, .inl (D.1 7, 16, .inl nPlan))] (some (.int oR)) [(x0, .inr (5, [.ref p0, .ref n0, .ref o0, .ref t0, .ref s0, .ref im0, .ref sh0, .ref cr0, .int xLatestTorn])), (n0, .inr (1, [.int nCells, .int nSigns, .int nHour, .int nStops, .int nWaste, .int nDone, .int nBridged, .ref nKindA, .ref nRoomA, .ref nChargeA, .ref nLeakA, .ref nPlanA])), (nKindA, .inl (D.1 7, 5, .inl nKind)), (nRoomA, .inl (D.1 7, 5, .inl nRoom)), (nChargeA, .inl (D.1 7, 5, .inl nCharge)), (nLeakA, .inl (D.1 7, 5, .inl nLeak)), (nPlanA, .inl (D.1 7, 16, .inl nPlan))] := j_met (cc := cX5_sign) (nl := 2) (rt := (some .int)) (own := RX5) (lv := [(0, .ref x0), (1, .int v1)]) (by decide +kernel) rfl rfl rfl (Nat.le_of_ble_eq_true rfl) (fun G C => t_X5_sign_0 C hf)

-- X5_isOfUnit
set_option maxHeartbeats 4000000 in
set_option maxRecDepth 100000 in
theorem t_X5_isOfUnit_0 {G : jX} {D : va_G} {v0 : Int32} {v1 : Int32} {oR : Int32} (C : KC G D cX5_isOfUnit RX5 wsX5_isOfUnit ({ frames := 0, cells := 0, slots := 0, locals := 0 } : Room) 2 (some .boolean) (some (.int oR)) []) (hf : f_X5_isOfUnit v0 v1 = some oR) : JW G D 0 [(0, .int v0), (1, .int v1)] [] [] := by
  unfold f_X5_isOfUnit at hf
  refine j_iload_n (pc := 0) C 0 rfl dX5_isOfUnit_0 ?_
  by_cases c0 : v0 = 0
  · replace hf := (if_pos c0).symm.trans hf
    refine j_tbl (pc := 1) 32 0 C (by rw [c0]; rfl) (by decide) rfl (by decide) dX5_isOfUnit_1 ?_
    refine j_iload_n (pc := 32) C 1 rfl dX5_isOfUnit_32 ?_
    refine j_if_lt (pc := 33) 45 C hf (by decide) dX5_isOfUnit_33 (fun hf => ?_) (fun hf => ?_)
    · refine j_iconst (pc := 45) 0 C (by decide) dX5_isOfUnit_45 ?_
      obtain rfl := si1 hf
      exact j_zret (pc := 46) C (by decide) dX5_isOfUnit_46
    · refine j_iload_n (pc := 36) C 1 rfl dX5_isOfUnit_36 ?_
      refine j_iconst (pc := 37) 4 C (by decide) dX5_isOfUnit_37 ?_
      refine j_icmp_ge (pc := 38) 45 C hf (by decide) dX5_isOfUnit_38 (fun hf => ?_) (fun hf => ?_)
      · refine j_iconst (pc := 45) 0 C (by decide) dX5_isOfUnit_45 ?_
        obtain rfl := si1 hf
        exact j_zret (pc := 46) C (by decide) dX5_isOfUnit_46
      · refine j_iconst (pc := 41) 1 C (by decide) dX5_isOfUnit_41 ?_
        refine j_goto (pc := 42) 46 C (by decide) dX5_isOfUnit_42 ?_
        obtain rfl := si1 hf
        exact j_zret (pc := 46) C (by decide) dX5_isOfUnit_46
  replace hf := (if_neg c0).symm.trans hf
  by_cases c1 : v0 = 1
  · replace hf := (if_pos c1).symm.trans hf
    refine j_tbl (pc := 1) 47 1 C (by rw [c1]; rfl) (by decide) rfl (by decide) dX5_isOfUnit_1 ?_
    refine j_iload_n (pc := 47) C 1 rfl dX5_isOfUnit_47 ?_
    refine j_iconst (pc := 48) 1 C (by decide) dX5_isOfUnit_48 ?_
    refine j_icmp_lt (pc := 49) 62 C hf (by decide) dX5_isOfUnit_49 (fun hf => ?_) (fun hf => ?_)
    · refine j_iconst (pc := 62) 0 C (by decide) dX5_isOfUnit_62 ?_
      obtain rfl := si1 hf
      exact j_zret (pc := 63) C (by decide) dX5_isOfUnit_63
    · refine j_iload_n (pc := 52) C 1 rfl dX5_isOfUnit_52 ?_
      refine j_bipush (pc := 53) 99 C (by decide) dX5_isOfUnit_53 ?_
      refine j_icmp_gt (pc := 55) 62 C hf (by decide) dX5_isOfUnit_55 (fun hf => ?_) (fun hf => ?_)
      · refine j_iconst (pc := 62) 0 C (by decide) dX5_isOfUnit_62 ?_
        obtain rfl := si1 hf
        exact j_zret (pc := 63) C (by decide) dX5_isOfUnit_63
      · refine j_iconst (pc := 58) 1 C (by decide) dX5_isOfUnit_58 ?_
        refine j_goto (pc := 59) 63 C (by decide) dX5_isOfUnit_59 ?_
        obtain rfl := si1 hf
        exact j_zret (pc := 63) C (by decide) dX5_isOfUnit_63
  replace hf := (if_neg c1).symm.trans hf
  by_cases c2 : v0 = 2
  · replace hf := (if_pos c2).symm.trans hf
    refine j_tbl (pc := 1) 64 2 C (by rw [c2]; rfl) (by decide) rfl (by decide) dX5_isOfUnit_1 ?_
    refine j_iload_n (pc := 64) C 1 rfl dX5_isOfUnit_64 ?_
    refine j_if_lt (pc := 65) 78 C hf (by decide) dX5_isOfUnit_65 (fun hf => ?_) (fun hf => ?_)
    · refine j_iconst (pc := 78) 0 C (by decide) dX5_isOfUnit_78 ?_
      obtain rfl := si1 hf
      exact j_zret (pc := 79) C (by decide) dX5_isOfUnit_79
    · refine j_iload_n (pc := 68) C 1 rfl dX5_isOfUnit_68 ?_
      refine j_bipush (pc := 69) 99 C (by decide) dX5_isOfUnit_69 ?_
      refine j_icmp_gt (pc := 71) 78 C hf (by decide) dX5_isOfUnit_71 (fun hf => ?_) (fun hf => ?_)
      · refine j_iconst (pc := 78) 0 C (by decide) dX5_isOfUnit_78 ?_
        obtain rfl := si1 hf
        exact j_zret (pc := 79) C (by decide) dX5_isOfUnit_79
      · refine j_iconst (pc := 74) 1 C (by decide) dX5_isOfUnit_74 ?_
        refine j_goto (pc := 75) 79 C (by decide) dX5_isOfUnit_75 ?_
        obtain rfl := si1 hf
        exact j_zret (pc := 79) C (by decide) dX5_isOfUnit_79
  replace hf := (if_neg c2).symm.trans hf
  by_cases c3 : v0 = 3
  · replace hf := (if_pos c3).symm.trans hf
    refine j_tbl (pc := 1) 80 3 C (by rw [c3]; rfl) (by decide) rfl (by decide) dX5_isOfUnit_1 ?_
    refine j_iload_n (pc := 80) C 1 rfl dX5_isOfUnit_80 ?_
    refine j_if_lt (pc := 81) 94 C hf (by decide) dX5_isOfUnit_81 (fun hf => ?_) (fun hf => ?_)
    · refine j_iconst (pc := 94) 0 C (by decide) dX5_isOfUnit_94 ?_
      obtain rfl := si1 hf
      exact j_zret (pc := 95) C (by decide) dX5_isOfUnit_95
    · refine j_iload_n (pc := 84) C 1 rfl dX5_isOfUnit_84 ?_
      refine j_bipush (pc := 85) 9 C (by decide) dX5_isOfUnit_85 ?_
      refine j_icmp_gt (pc := 87) 94 C hf (by decide) dX5_isOfUnit_87 (fun hf => ?_) (fun hf => ?_)
      · refine j_iconst (pc := 94) 0 C (by decide) dX5_isOfUnit_94 ?_
        obtain rfl := si1 hf
        exact j_zret (pc := 95) C (by decide) dX5_isOfUnit_95
      · refine j_iconst (pc := 90) 1 C (by decide) dX5_isOfUnit_90 ?_
        refine j_goto (pc := 91) 95 C (by decide) dX5_isOfUnit_91 ?_
        obtain rfl := si1 hf
        exact j_zret (pc := 95) C (by decide) dX5_isOfUnit_95
  replace hf := (if_neg c3).symm.trans hf
  have e0 := lv_neT (a := 0) c0 (by decide)
  have e1 := lv_neT (a := 1) c1 (by decide)
  have e2 := lv_neT (a := 2) c2 (by decide)
  have e3 := lv_neT (a := 3) c3 (by decide)
  refine j_tbd (pc := 1) 96 C (by omega) (by decide) dX5_isOfUnit_1 ?_
  refine j_iconst (pc := 96) 0 C (by decide) dX5_isOfUnit_96 ?_
  obtain rfl := si1 hf
  exact j_zret (pc := 97) C (by decide) dX5_isOfUnit_97
theorem k_X5_isOfUnit : CK yX5_isOfUnit wsX5_isOfUnit cX5_isOfUnit 2 (some .boolean) 2 := ⟨rfl, by decide +kernel⟩
theorem c_X5_isOfUnit (D : va_G) (v0 : Int32) (v1 : Int32) (oR : Int32) (hf : f_X5_isOfUnit v0 v1 = some oR) : ∀ l, MW l yX5_isOfUnit wsX5_isOfUnit ({ frames := 0, cells := 0, slots := 0, locals := 0 } : Room) D [.int v0, .int v1] [] (some (.int oR)) [] := j_met (cc := cX5_isOfUnit) (nl := 2) (rt := (some .boolean)) (own := RX5) (lv := [(0, .int v0), (1, .int v1)]) (by decide +kernel) rfl rfl rfl (Nat.le_of_ble_eq_true rfl) (fun G C => t_X5_isOfUnit_0 C hf)

-- X5_alter
theorem fl_X5_alter_19 : Cond.fieldLink RX5 19 "CellsInRow" "now" "LCellsInRow$Row;" ∈ wsX5_alter := by decide +kernel
theorem iw_X5_alter_X5 : ∀ w ∈ wsX50, w ∈ wsX5_alter := by decide +kernel
theorem fl_X5_alter_125 : Cond.fieldLink RX5 125 "CellsInRow$Row" "leak" "[I" ∈ wsX5_alter := by decide +kernel
theorem iw_X5_alter_X1 : ∀ w ∈ wsX10, w ∈ wsX5_alter := by decide +kernel
theorem fl_X5_alter_122 : Cond.fieldLink RX5 122 "CellsInRow$Row" "charge" "[I" ∈ wsX5_alter := by decide +kernel
theorem fl_X5_alter_119 : Cond.fieldLink RX5 119 "CellsInRow$Row" "room" "[I" ∈ wsX5_alter := by decide +kernel
theorem fl_X5_alter_116 : Cond.fieldLink RX5 116 "CellsInRow$Row" "kind" "[I" ∈ wsX5_alter := by decide +kernel
set_option maxHeartbeats 4000000 in
set_option maxRecDepth 100000 in
theorem t_X5_alter_57 {G : jX} {D : va_G} {x0 p0 n0 o0 t0 s0 im0 sh0 cr0 nKindA nRoomA nChargeA nLeakA nPlanA : Nat} {v1 : Int32} {v2 : Int32} {v3 : Int32} {xLatestTorn : Int32} {nCells : Int32} {nSigns : Int32} {nHour : Int32} {nStops : Int32} {nWaste : Int32} {nDone : Int32} {nBridged : Int32} {nKind : Nat → Int32} {nRoom : Nat → Int32} {nCharge : Nat → Int32} {nLeak : Nat → Int32} {nPlan : Nat → Int32} {oR : Int32} {oNKind : Nat → Int32} {oNRoom : Nat → Int32} {oNCharge : Nat → Int32} {oNLeak : Nat → Int32} (C : KC G D cX5_alter RX5 wsX5_alter ({ frames := 1, cells := 0, slots := 0, locals := 21 } : Room) 6 (some .int) (some (.int oR)) [(x0, .inr (5, [.ref p0, .ref n0, .ref o0, .ref t0, .ref s0, .ref im0, .ref sh0, .ref cr0, .int xLatestTorn])), (n0, .inr (1, [.int nCells, .int nSigns, .int nHour, .int nStops, .int nWaste, .int nDone, .int nBridged, .ref nKindA, .ref nRoomA, .ref nChargeA, .ref nLeakA, .ref nPlanA])), (nKindA, .inl (D.1 7, 5, .inl oNKind)), (nRoomA, .inl (D.1 7, 5, .inl oNRoom)), (nChargeA, .inl (D.1 7, 5, .inl oNCharge)), (nLeakA, .inl (D.1 7, 5, .inl oNLeak)), (nPlanA, .inl (D.1 7, 16, .inl nPlan))]) (hf : f_X5_alter_57 v1 v2 v3 nCells nKind nRoom nCharge nLeak = some (oR, oNKind, oNRoom, oNCharge, oNLeak)) : JW G D 57 [(0, .ref x0), (1, .int v1), (2, .int v2), (3, .int v3)] [] [(x0, .inr (5, [.ref p0, .ref n0, .ref o0, .ref t0, .ref s0, .ref im0, .ref sh0, .ref cr0, .int xLatestTorn])), (n0, .inr (1, [.int nCells, .int nSigns, .int nHour, .int nStops, .int nWaste, .int nDone, .int nBridged, .ref nKindA, .ref nRoomA, .ref nChargeA, .ref nLeakA, .ref nPlanA])), (nKindA, .inl (D.1 7, 5, .inl nKind)), (nRoomA, .inl (D.1 7, 5, .inl nRoom)), (nChargeA, .inl (D.1 7, 5, .inl nCharge)), (nLeakA, .inl (D.1 7, 5, .inl nLeak)), (nPlanA, .inl (D.1 7, 16, .inl nPlan))] := by
  unfold f_X5_alter_57 at hf
  refine j_iload_n (pc := 57) C 2 rfl dX5_alter_57 ?_
  refine j_if_ne (pc := 58) 71 C hf (by decide) dX5_alter_58 (fun hf => ?_) (fun hf => ?_)
  · refine j_iload_n (pc := 71) C 2 rfl dX5_alter_71 ?_
    refine j_iconst (pc := 72) 1 C (by decide) dX5_alter_72 ?_
    refine j_icmp_ne (pc := 73) 86 C hf (by decide) dX5_alter_73 (fun hf => ?_) (fun hf => ?_)
    · refine j_iload_n (pc := 86) C 2 rfl dX5_alter_86 ?_
      refine j_iconst (pc := 87) 2 C (by decide) dX5_alter_87 ?_
      refine j_icmp_ne (pc := 88) 101 C hf (by decide) dX5_alter_88 (fun hf => ?_) (fun hf => ?_)
      · refine j_aload_n (pc := 101) C 0 rfl dX5_alter_101 ?_
        refine j_get (pc := 102) 0 5 1 C iw_X5_alter_X5 rfl rfl (by decide) fl_X5_alter_19 rfl rfl dX5_alter_102 ?_
        refine j_get (pc := 105) 1 1 10 C iw_X5_alter_X1 rfl rfl (by decide) fl_X5_alter_125 rfl rfl dX5_alter_105 ?_
        refine j_astore (pc := 108) 4 [(0, .ref x0), (1, .int v1), (2, .int v2), (3, .int v3), (4, .ref nLeakA)] [1, 2, 3, 4, 0] C (by decide) rfl dX5_alter_108 ?_
        refine j_aload (pc := 110) C 4 rfl dX5_alter_110 ?_
        refine j_iload_n (pc := 112) C 1 rfl dX5_alter_112 ?_
        refine j_iald (pc := 113) 5 C rfl hf dX5_alter_113 (fun hf => ?_)
        refine j_bdi hf (fun y_3 hf => ?_)
        refine j_istore (pc := 114) 5 [(0, .ref x0), (1, .int v1), (2, .int v2), (3, .int v3), (4, .ref nLeakA), (5, .int y_3)] [1, 2, 3, 4, 5, 0] C (by decide) rfl dX5_alter_114 ?_
        refine j_aload (pc := 116) C 4 rfl dX5_alter_116 ?_
        refine j_iload_n (pc := 118) C 1 rfl dX5_alter_118 ?_
        refine j_iload_n (pc := 119) C 3 rfl dX5_alter_119 ?_
        refine j_iast (pc := 120) 5 [(x0, .inr (5, [.ref p0, .ref n0, .ref o0, .ref t0, .ref s0, .ref im0, .ref sh0, .ref cr0, .int xLatestTorn])), (n0, .inr (1, [.int nCells, .int nSigns, .int nHour, .int nStops, .int nWaste, .int nDone, .int nBridged, .ref nKindA, .ref nRoomA, .ref nChargeA, .ref nLeakA, .ref nPlanA])), (nKindA, .inl (D.1 7, 5, .inl nKind)), (nRoomA, .inl (D.1 7, 5, .inl nRoom)), (nChargeA, .inl (D.1 7, 5, .inl nCharge)), (nLeakA, .inl (D.1 7, 5, .inl (upd nLeak v1.toNatClampNeg v3))), (nPlanA, .inl (D.1 7, 16, .inl nPlan))] C rfl rfl hf dX5_alter_120 (fun hf => ?_)
        refine j_iload (pc := 121) C 5 rfl dX5_alter_121 ?_
        obtain ⟨rfl, rfl, rfl, rfl, rfl⟩ := si5 hf
        exact j_iret (pc := 123) C dX5_alter_123
      · refine j_aload_n (pc := 91) C 0 rfl dX5_alter_91 ?_
        refine j_get (pc := 92) 0 5 1 C iw_X5_alter_X5 rfl rfl (by decide) fl_X5_alter_19 rfl rfl dX5_alter_92 ?_
        refine j_get (pc := 95) 1 1 9 C iw_X5_alter_X1 rfl rfl (by decide) fl_X5_alter_122 rfl rfl dX5_alter_95 ?_
        refine j_goto (pc := 98) 108 C (by decide) dX5_alter_98 ?_
        refine j_astore (pc := 108) 4 [(0, .ref x0), (1, .int v1), (2, .int v2), (3, .int v3), (4, .ref nChargeA)] [1, 2, 3, 4, 0] C (by decide) rfl dX5_alter_108 ?_
        refine j_aload (pc := 110) C 4 rfl dX5_alter_110 ?_
        refine j_iload_n (pc := 112) C 1 rfl dX5_alter_112 ?_
        refine j_iald (pc := 113) 4 C rfl hf dX5_alter_113 (fun hf => ?_)
        refine j_bdi hf (fun y_4 hf => ?_)
        refine j_istore (pc := 114) 5 [(0, .ref x0), (1, .int v1), (2, .int v2), (3, .int v3), (4, .ref nChargeA), (5, .int y_4)] [1, 2, 3, 4, 5, 0] C (by decide) rfl dX5_alter_114 ?_
        refine j_aload (pc := 116) C 4 rfl dX5_alter_116 ?_
        refine j_iload_n (pc := 118) C 1 rfl dX5_alter_118 ?_
        refine j_iload_n (pc := 119) C 3 rfl dX5_alter_119 ?_
        refine j_iast (pc := 120) 4 [(x0, .inr (5, [.ref p0, .ref n0, .ref o0, .ref t0, .ref s0, .ref im0, .ref sh0, .ref cr0, .int xLatestTorn])), (n0, .inr (1, [.int nCells, .int nSigns, .int nHour, .int nStops, .int nWaste, .int nDone, .int nBridged, .ref nKindA, .ref nRoomA, .ref nChargeA, .ref nLeakA, .ref nPlanA])), (nKindA, .inl (D.1 7, 5, .inl nKind)), (nRoomA, .inl (D.1 7, 5, .inl nRoom)), (nChargeA, .inl (D.1 7, 5, .inl (upd nCharge v1.toNatClampNeg v3))), (nLeakA, .inl (D.1 7, 5, .inl nLeak)), (nPlanA, .inl (D.1 7, 16, .inl nPlan))] C rfl rfl hf dX5_alter_120 (fun hf => ?_)
        refine j_iload (pc := 121) C 5 rfl dX5_alter_121 ?_
        obtain ⟨rfl, rfl, rfl, rfl, rfl⟩ := si5 hf
        exact j_iret (pc := 123) C dX5_alter_123
    · refine j_aload_n (pc := 76) C 0 rfl dX5_alter_76 ?_
      refine j_get (pc := 77) 0 5 1 C iw_X5_alter_X5 rfl rfl (by decide) fl_X5_alter_19 rfl rfl dX5_alter_77 ?_
      refine j_get (pc := 80) 1 1 8 C iw_X5_alter_X1 rfl rfl (by decide) fl_X5_alter_119 rfl rfl dX5_alter_80 ?_
      refine j_goto (pc := 83) 108 C (by decide) dX5_alter_83 ?_
      refine j_astore (pc := 108) 4 [(0, .ref x0), (1, .int v1), (2, .int v2), (3, .int v3), (4, .ref nRoomA)] [1, 2, 3, 4, 0] C (by decide) rfl dX5_alter_108 ?_
      refine j_aload (pc := 110) C 4 rfl dX5_alter_110 ?_
      refine j_iload_n (pc := 112) C 1 rfl dX5_alter_112 ?_
      refine j_iald (pc := 113) 3 C rfl hf dX5_alter_113 (fun hf => ?_)
      refine j_bdi hf (fun y_5 hf => ?_)
      refine j_istore (pc := 114) 5 [(0, .ref x0), (1, .int v1), (2, .int v2), (3, .int v3), (4, .ref nRoomA), (5, .int y_5)] [1, 2, 3, 4, 5, 0] C (by decide) rfl dX5_alter_114 ?_
      refine j_aload (pc := 116) C 4 rfl dX5_alter_116 ?_
      refine j_iload_n (pc := 118) C 1 rfl dX5_alter_118 ?_
      refine j_iload_n (pc := 119) C 3 rfl dX5_alter_119 ?_
      refine j_iast (pc := 120) 3 [(x0, .inr (5, [.ref p0, .ref n0, .ref o0, .ref t0, .ref s0, .ref im0, .ref sh0, .ref cr0, .int xLatestTorn])), (n0, .inr (1, [.int nCells, .int nSigns, .int nHour, .int nStops, .int nWaste, .int nDone, .int nBridged, .ref nKindA, .ref nRoomA, .ref nChargeA, .ref nLeakA, .ref nPlanA])), (nKindA, .inl (D.1 7, 5, .inl nKind)), (nRoomA, .inl (D.1 7, 5, .inl (upd nRoom v1.toNatClampNeg v3))), (nChargeA, .inl (D.1 7, 5, .inl nCharge)), (nLeakA, .inl (D.1 7, 5, .inl nLeak)), (nPlanA, .inl (D.1 7, 16, .inl nPlan))] C rfl rfl hf dX5_alter_120 (fun hf => ?_)
      refine j_iload (pc := 121) C 5 rfl dX5_alter_121 ?_
      obtain ⟨rfl, rfl, rfl, rfl, rfl⟩ := si5 hf
      exact j_iret (pc := 123) C dX5_alter_123
  · refine j_aload_n (pc := 61) C 0 rfl dX5_alter_61 ?_
    refine j_get (pc := 62) 0 5 1 C iw_X5_alter_X5 rfl rfl (by decide) fl_X5_alter_19 rfl rfl dX5_alter_62 ?_
    refine j_get (pc := 65) 1 1 7 C iw_X5_alter_X1 rfl rfl (by decide) fl_X5_alter_116 rfl rfl dX5_alter_65 ?_
    refine j_goto (pc := 68) 108 C (by decide) dX5_alter_68 ?_
    refine j_astore (pc := 108) 4 [(0, .ref x0), (1, .int v1), (2, .int v2), (3, .int v3), (4, .ref nKindA)] [1, 2, 3, 4, 0] C (by decide) rfl dX5_alter_108 ?_
    refine j_aload (pc := 110) C 4 rfl dX5_alter_110 ?_
    refine j_iload_n (pc := 112) C 1 rfl dX5_alter_112 ?_
    refine j_iald (pc := 113) 2 C rfl hf dX5_alter_113 (fun hf => ?_)
    refine j_bdi hf (fun y_6 hf => ?_)
    refine j_istore (pc := 114) 5 [(0, .ref x0), (1, .int v1), (2, .int v2), (3, .int v3), (4, .ref nKindA), (5, .int y_6)] [1, 2, 3, 4, 5, 0] C (by decide) rfl dX5_alter_114 ?_
    refine j_aload (pc := 116) C 4 rfl dX5_alter_116 ?_
    refine j_iload_n (pc := 118) C 1 rfl dX5_alter_118 ?_
    refine j_iload_n (pc := 119) C 3 rfl dX5_alter_119 ?_
    refine j_iast (pc := 120) 2 [(x0, .inr (5, [.ref p0, .ref n0, .ref o0, .ref t0, .ref s0, .ref im0, .ref sh0, .ref cr0, .int xLatestTorn])), (n0, .inr (1, [.int nCells, .int nSigns, .int nHour, .int nStops, .int nWaste, .int nDone, .int nBridged, .ref nKindA, .ref nRoomA, .ref nChargeA, .ref nLeakA, .ref nPlanA])), (nKindA, .inl (D.1 7, 5, .inl (upd nKind v1.toNatClampNeg v3))), (nRoomA, .inl (D.1 7, 5, .inl nRoom)), (nChargeA, .inl (D.1 7, 5, .inl nCharge)), (nLeakA, .inl (D.1 7, 5, .inl nLeak)), (nPlanA, .inl (D.1 7, 16, .inl nPlan))] C rfl rfl hf dX5_alter_120 (fun hf => ?_)
    refine j_iload (pc := 121) C 5 rfl dX5_alter_121 ?_
    obtain ⟨rfl, rfl, rfl, rfl, rfl⟩ := si5 hf
    exact j_iret (pc := 123) C dX5_alter_123
set_option maxHeartbeats 4000000 in
set_option maxRecDepth 100000 in
theorem t_X5_alter_36 {G : jX} {D : va_G} {x0 p0 n0 o0 t0 s0 im0 sh0 cr0 nKindA nRoomA nChargeA nLeakA nPlanA : Nat} {v1 : Int32} {v2 : Int32} {v3 : Int32} {xLatestTorn : Int32} {nCells : Int32} {nSigns : Int32} {nHour : Int32} {nStops : Int32} {nWaste : Int32} {nDone : Int32} {nBridged : Int32} {nKind : Nat → Int32} {nRoom : Nat → Int32} {nCharge : Nat → Int32} {nLeak : Nat → Int32} {nPlan : Nat → Int32} {oR : Int32} {oNKind : Nat → Int32} {oNRoom : Nat → Int32} {oNCharge : Nat → Int32} {oNLeak : Nat → Int32} (C : KC G D cX5_alter RX5 wsX5_alter ({ frames := 1, cells := 0, slots := 0, locals := 21 } : Room) 6 (some .int) (some (.int oR)) [(x0, .inr (5, [.ref p0, .ref n0, .ref o0, .ref t0, .ref s0, .ref im0, .ref sh0, .ref cr0, .int xLatestTorn])), (n0, .inr (1, [.int nCells, .int nSigns, .int nHour, .int nStops, .int nWaste, .int nDone, .int nBridged, .ref nKindA, .ref nRoomA, .ref nChargeA, .ref nLeakA, .ref nPlanA])), (nKindA, .inl (D.1 7, 5, .inl oNKind)), (nRoomA, .inl (D.1 7, 5, .inl oNRoom)), (nChargeA, .inl (D.1 7, 5, .inl oNCharge)), (nLeakA, .inl (D.1 7, 5, .inl oNLeak)), (nPlanA, .inl (D.1 7, 16, .inl nPlan))]) (hf : f_X5_alter_36 v1 v2 v3 nCells nKind nRoom nCharge nLeak = some (oR, oNKind, oNRoom, oNCharge, oNLeak)) : JW G D 36 [(0, .ref x0), (1, .int v1), (2, .int v2), (3, .int v3)] [] [(x0, .inr (5, [.ref p0, .ref n0, .ref o0, .ref t0, .ref s0, .ref im0, .ref sh0, .ref cr0, .int xLatestTorn])), (n0, .inr (1, [.int nCells, .int nSigns, .int nHour, .int nStops, .int nWaste, .int nDone, .int nBridged, .ref nKindA, .ref nRoomA, .ref nChargeA, .ref nLeakA, .ref nPlanA])), (nKindA, .inl (D.1 7, 5, .inl nKind)), (nRoomA, .inl (D.1 7, 5, .inl nRoom)), (nChargeA, .inl (D.1 7, 5, .inl nCharge)), (nLeakA, .inl (D.1 7, 5, .inl nLeak)), (nPlanA, .inl (D.1 7, 16, .inl nPlan))] := by
  unfold f_X5_alter_36 at hf
  refine j_iload_n (pc := 36) C 2 rfl dX5_alter_36 ?_
  refine j_iconst (pc := 37) 2 C (by decide) dX5_alter_37 ?_
  refine j_icmp_ne (pc := 38) 57 C hf (by decide) dX5_alter_38 (fun hf => ?_) (fun hf => ?_)
  · exact t_X5_alter_57 C hf
  · refine j_iload_n (pc := 41) C 3 rfl dX5_alter_41 ?_
    refine j_aload_n (pc := 42) C 0 rfl dX5_alter_42 ?_
    refine j_get (pc := 43) 0 5 1 C iw_X5_alter_X5 rfl rfl (by decide) fl_X5_alter_19 rfl rfl dX5_alter_43 ?_
    refine j_get (pc := 46) 1 1 8 C iw_X5_alter_X1 rfl rfl (by decide) fl_X5_alter_119 rfl rfl dX5_alter_46 ?_
    refine j_iload_n (pc := 49) C 1 rfl dX5_alter_49 ?_
    refine j_iald (pc := 50) 3 C rfl hf dX5_alter_50 (fun hf => ?_)
    refine j_icmp_le (pc := 51) 57 C hf (by decide) dX5_alter_51 (fun hf => ?_) (fun hf => ?_)
    · exact t_X5_alter_57 C hf
    · refine j_bipush (pc := 54) (-2) C (by decide) dX5_alter_54 ?_
      obtain ⟨rfl, rfl, rfl, rfl, rfl⟩ := si5 hf
      exact j_iret (pc := 56) C dX5_alter_56
set_option maxHeartbeats 4000000 in
set_option maxRecDepth 100000 in
theorem t_X5_alter_0 {G : jX} {D : va_G} {x0 p0 n0 o0 t0 s0 im0 sh0 cr0 nKindA nRoomA nChargeA nLeakA nPlanA : Nat} {v1 : Int32} {v2 : Int32} {v3 : Int32} {xLatestTorn : Int32} {nCells : Int32} {nSigns : Int32} {nHour : Int32} {nStops : Int32} {nWaste : Int32} {nDone : Int32} {nBridged : Int32} {nKind : Nat → Int32} {nRoom : Nat → Int32} {nCharge : Nat → Int32} {nLeak : Nat → Int32} {nPlan : Nat → Int32} {oR : Int32} {oNKind : Nat → Int32} {oNRoom : Nat → Int32} {oNCharge : Nat → Int32} {oNLeak : Nat → Int32} (C : KC G D cX5_alter RX5 wsX5_alter ({ frames := 1, cells := 0, slots := 0, locals := 21 } : Room) 6 (some .int) (some (.int oR)) [(x0, .inr (5, [.ref p0, .ref n0, .ref o0, .ref t0, .ref s0, .ref im0, .ref sh0, .ref cr0, .int xLatestTorn])), (n0, .inr (1, [.int nCells, .int nSigns, .int nHour, .int nStops, .int nWaste, .int nDone, .int nBridged, .ref nKindA, .ref nRoomA, .ref nChargeA, .ref nLeakA, .ref nPlanA])), (nKindA, .inl (D.1 7, 5, .inl oNKind)), (nRoomA, .inl (D.1 7, 5, .inl oNRoom)), (nChargeA, .inl (D.1 7, 5, .inl oNCharge)), (nLeakA, .inl (D.1 7, 5, .inl oNLeak)), (nPlanA, .inl (D.1 7, 16, .inl nPlan))]) (hf : f_X5_alter v1 v2 v3 nCells nKind nRoom nCharge nLeak = some (oR, oNKind, oNRoom, oNCharge, oNLeak)) : JW G D 0 [(0, .ref x0), (1, .int v1), (2, .int v2), (3, .int v3)] [] [(x0, .inr (5, [.ref p0, .ref n0, .ref o0, .ref t0, .ref s0, .ref im0, .ref sh0, .ref cr0, .int xLatestTorn])), (n0, .inr (1, [.int nCells, .int nSigns, .int nHour, .int nStops, .int nWaste, .int nDone, .int nBridged, .ref nKindA, .ref nRoomA, .ref nChargeA, .ref nLeakA, .ref nPlanA])), (nKindA, .inl (D.1 7, 5, .inl nKind)), (nRoomA, .inl (D.1 7, 5, .inl nRoom)), (nChargeA, .inl (D.1 7, 5, .inl nCharge)), (nLeakA, .inl (D.1 7, 5, .inl nLeak)), (nPlanA, .inl (D.1 7, 16, .inl nPlan))] := by
  unfold f_X5_alter at hf
  refine j_aload_n (pc := 0) C 0 rfl dX5_alter_0 ?_
  refine j_iload_n (pc := 1) C 1 rfl dX5_alter_1 ?_
  obtain ⟨a_1, hu, hf⟩ := ob1_some hf
  refine j_callV (pc := 2) (N := 7) (qr := 0) (ci := 5) [.int v1] [] [.int v1, .ref x0] [.int a_1] [(x0, .inr (5, [.ref p0, .ref n0, .ref o0, .ref t0, .ref s0, .ref im0, .ref sh0, .ref cr0, .int xLatestTorn])), (n0, .inr (1, [.int nCells, .int nSigns, .int nHour, .int nStops, .int nWaste, .int nDone, .int nBridged, .ref nKindA, .ref nRoomA, .ref nChargeA, .ref nLeakA, .ref nPlanA])), (nKindA, .inl (D.1 7, 5, .inl nKind)), (nRoomA, .inl (D.1 7, 5, .inl nRoom)), (nChargeA, .inl (D.1 7, 5, .inl nCharge)), (nLeakA, .inl (D.1 7, 5, .inl nLeak)), (nPlanA, .inl (D.1 7, 16, .inl nPlan))] [] [x0, n0, nKindA, nRoomA, nChargeA, nLeakA, nPlanA] [0, 1, 2, 3, 4, 5, 6] [] C (c_X5_isCell D x0 p0 n0 o0 t0 s0 im0 sh0 cr0 nKindA nRoomA nChargeA nLeakA nPlanA v1 xLatestTorn nCells nSigns nHour nStops nWaste nDone nBridged nKind nRoom nCharge nLeak nPlan a_1 hu) k_X5_isCell gX5_alter_X5_isCell ⟨rfl, rfl⟩ ⟨Nat.le_of_ble_eq_true rfl, Nat.le_of_ble_eq_true rfl⟩ rfl rfl rfl rfl rfl rfl (Nat.le_of_ble_eq_true rfl) rfl rfl rfl rfl (by decide) (by decide) (by decide) rfl rfl rfl dX5_alter_2 ?_
  refine j_if_eq (pc := 5) 16 C hf (by decide) dX5_alter_5 (fun hf => ?_) (fun hf => ?_)
  · refine j_iconst (pc := 16) (-1) C (by decide) dX5_alter_16 ?_
    obtain ⟨rfl, rfl, rfl, rfl, rfl⟩ := si5 hf
    exact j_iret (pc := 17) C dX5_alter_17
  · refine j_iload_n (pc := 8) C 2 rfl dX5_alter_8 ?_
    refine j_iload_n (pc := 9) C 3 rfl dX5_alter_9 ?_
    obtain ⟨a_2, hu, hf⟩ := ob1_some hf
    refine j_callS (pc := 10) (N := 7) [.int v2, .int v3] [] [.int v3, .int v2] [.int a_2] [(x0, .inr (5, [.ref p0, .ref n0, .ref o0, .ref t0, .ref s0, .ref im0, .ref sh0, .ref cr0, .int xLatestTorn])), (n0, .inr (1, [.int nCells, .int nSigns, .int nHour, .int nStops, .int nWaste, .int nDone, .int nBridged, .ref nKindA, .ref nRoomA, .ref nChargeA, .ref nLeakA, .ref nPlanA])), (nKindA, .inl (D.1 7, 5, .inl nKind)), (nRoomA, .inl (D.1 7, 5, .inl nRoom)), (nChargeA, .inl (D.1 7, 5, .inl nCharge)), (nLeakA, .inl (D.1 7, 5, .inl nLeak)), (nPlanA, .inl (D.1 7, 16, .inl nPlan))] [(x0, .inr (5, [.ref p0, .ref n0, .ref o0, .ref t0, .ref s0, .ref im0, .ref sh0, .ref cr0, .int xLatestTorn])), (n0, .inr (1, [.int nCells, .int nSigns, .int nHour, .int nStops, .int nWaste, .int nDone, .int nBridged, .ref nKindA, .ref nRoomA, .ref nChargeA, .ref nLeakA, .ref nPlanA])), (nKindA, .inl (D.1 7, 5, .inl nKind)), (nRoomA, .inl (D.1 7, 5, .inl nRoom)), (nChargeA, .inl (D.1 7, 5, .inl nCharge)), (nLeakA, .inl (D.1 7, 5, .inl nLeak)), (nPlanA, .inl (D.1 7, 16, .inl nPlan))] [x0, n0, nKindA, nRoomA, nChargeA, nLeakA, nPlanA] [] [0, 1, 2, 3, 4, 5, 6] C (c_X5_isOfUnit D v2 v3 a_2 hu) k_X5_isOfUnit gX5_alter_X5_isOfUnit ⟨rfl, rfl⟩ ⟨Nat.le_of_ble_eq_true rfl, Nat.le_of_ble_eq_true rfl⟩ rfl rfl rfl (Nat.le_of_ble_eq_true rfl) rfl rfl rfl rfl (by decide) (by decide) (by decide) rfl rfl rfl dX5_alter_10 ?_
    refine j_if_ne (pc := 13) 18 C hf (by decide) dX5_alter_13 (fun hf => ?_) (fun hf => ?_)
    · refine j_iload_n (pc := 18) C 2 rfl dX5_alter_18 ?_
      refine j_iconst (pc := 19) 1 C (by decide) dX5_alter_19 ?_
      refine j_icmp_ne (pc := 20) 36 C hf (by decide) dX5_alter_20 (fun hf => ?_) (fun hf => ?_)
      · exact t_X5_alter_36 C hf
      · refine j_iload_n (pc := 23) C 3 rfl dX5_alter_23 ?_
        refine j_aload_n (pc := 24) C 0 rfl dX5_alter_24 ?_
        refine j_get (pc := 25) 0 5 1 C iw_X5_alter_X5 rfl rfl (by decide) fl_X5_alter_19 rfl rfl dX5_alter_25 ?_
        refine j_get (pc := 28) 1 1 9 C iw_X5_alter_X1 rfl rfl (by decide) fl_X5_alter_122 rfl rfl dX5_alter_28 ?_
        refine j_iload_n (pc := 31) C 1 rfl dX5_alter_31 ?_
        refine j_iald (pc := 32) 4 C rfl hf dX5_alter_32 (fun hf => ?_)
        refine j_icmp_lt (pc := 33) 54 C hf (by decide) dX5_alter_33 (fun hf => ?_) (fun hf => ?_)
        · refine j_bipush (pc := 54) (-2) C (by decide) dX5_alter_54 ?_
          obtain ⟨rfl, rfl, rfl, rfl, rfl⟩ := si5 hf
          exact j_iret (pc := 56) C dX5_alter_56
        · exact t_X5_alter_36 C hf
    · refine j_iconst (pc := 16) (-1) C (by decide) dX5_alter_16 ?_
      obtain ⟨rfl, rfl, rfl, rfl, rfl⟩ := si5 hf
      exact j_iret (pc := 17) C dX5_alter_17
theorem k_X5_alter : CK yX5_alter wsX5_alter cX5_alter 6 (some .int) 3 := ⟨rfl, by decide +kernel⟩
theorem c_X5_alter (D : va_G) (x0 p0 n0 o0 t0 s0 im0 sh0 cr0 nKindA nRoomA nChargeA nLeakA nPlanA : Nat) (v1 : Int32) (v2 : Int32) (v3 : Int32) (xLatestTorn : Int32) (nCells : Int32) (nSigns : Int32) (nHour : Int32) (nStops : Int32) (nWaste : Int32) (nDone : Int32) (nBridged : Int32) (nKind : Nat → Int32) (nRoom : Nat → Int32) (nCharge : Nat → Int32) (nLeak : Nat → Int32) (nPlan : Nat → Int32) (oR : Int32) (oNKind : Nat → Int32) (oNRoom : Nat → Int32) (oNCharge : Nat → Int32) (oNLeak : Nat → Int32) (hf : f_X5_alter v1 v2 v3 nCells nKind nRoom nCharge nLeak = some (oR, oNKind, oNRoom, oNCharge, oNLeak)) : ∀ l, MW l yX5_alter wsX5_alter ({ frames := 1, cells := 0, slots := 0, locals := 21 } : Room) D [.ref x0, .int v1, .int v2, .int v3] [(x0, .inr (5, [.ref p0, .ref n0, .ref o0, .ref t0, .ref s0, .ref im0, .ref sh0, .ref cr0, .int xLatestTorn])), (n0, .inr (1, [.int nCells, .int nSigns, .int nHour, .int nStops, .int nWaste, .int nDone, .int nBridged, .ref nKindA, .ref nRoomA, .ref nChargeA, .ref nLeakA, .ref nPlanA])), (nKindA, .inl (D.1 7, 5, .inl nKind)), (nRoomA, .inl (D.1 7, 5, .inl nRoom)), (nChargeA, .inl (D.1 7, 5, .inl nCharge)), (nLeakA, .inl (D.1 7, 5, .inl nLeak)), (nPlanA, .inl (D.1 7, 16, .inl nPlan))] (some (.int oR)) [(x0, .inr (5, [.ref p0, .ref n0, .ref o0, .ref t0, .ref s0, .ref im0, .ref sh0, .ref cr0, .int xLatestTorn])), (n0, .inr (1, [.int nCells, .int nSigns, .int nHour, .int nStops, .int nWaste, .int nDone, .int nBridged, .ref nKindA, .ref nRoomA, .ref nChargeA, .ref nLeakA, .ref nPlanA])), (nKindA, .inl (D.1 7, 5, .inl oNKind)), (nRoomA, .inl (D.1 7, 5, .inl oNRoom)), (nChargeA, .inl (D.1 7, 5, .inl oNCharge)), (nLeakA, .inl (D.1 7, 5, .inl oNLeak)), (nPlanA, .inl (D.1 7, 16, .inl nPlan))] := j_met (cc := cX5_alter) (nl := 6) (rt := (some .int)) (own := RX5) (lv := [(0, .ref x0), (1, .int v1), (2, .int v2), (3, .int v3)]) (by decide +kernel) rfl rfl rfl (Nat.le_of_ble_eq_true rfl) (fun G C => t_X5_alter_0 C hf)

-- X5_isSignValue
set_option maxHeartbeats 4000000 in
set_option maxRecDepth 100000 in
theorem t_X5_isSignValue_0 {G : jX} {D : va_G} {v0 : Int32} {oR : Int32} (C : KC G D cX5_isSignValue RX5 wsX5_isSignValue ({ frames := 0, cells := 0, slots := 0, locals := 0 } : Room) 1 (some .boolean) (some (.int oR)) []) (hf : f_X5_isSignValue v0 = some oR) : JW G D 0 [(0, .int v0)] [] [] := by
  unfold f_X5_isSignValue at hf
  refine j_iload_n (pc := 0) C 0 rfl dX5_isSignValue_0 ?_
  refine j_if_lt (pc := 1) 14 C hf (by decide) dX5_isSignValue_1 (fun hf => ?_) (fun hf => ?_)
  · refine j_iconst (pc := 14) 0 C (by decide) dX5_isSignValue_14 ?_
    obtain rfl := si1 hf
    exact j_zret (pc := 15) C (by decide) dX5_isSignValue_15
  · refine j_iload_n (pc := 4) C 0 rfl dX5_isSignValue_4 ?_
    refine j_bipush (pc := 5) 18 C (by decide) dX5_isSignValue_5 ?_
    refine j_icmp_gt (pc := 7) 14 C hf (by decide) dX5_isSignValue_7 (fun hf => ?_) (fun hf => ?_)
    · refine j_iconst (pc := 14) 0 C (by decide) dX5_isSignValue_14 ?_
      obtain rfl := si1 hf
      exact j_zret (pc := 15) C (by decide) dX5_isSignValue_15
    · refine j_iconst (pc := 10) 1 C (by decide) dX5_isSignValue_10 ?_
      refine j_goto (pc := 11) 15 C (by decide) dX5_isSignValue_11 ?_
      obtain rfl := si1 hf
      exact j_zret (pc := 15) C (by decide) dX5_isSignValue_15
theorem k_X5_isSignValue : CK yX5_isSignValue wsX5_isSignValue cX5_isSignValue 1 (some .boolean) 1 := ⟨rfl, by decide +kernel⟩
theorem c_X5_isSignValue (D : va_G) (v0 : Int32) (oR : Int32) (hf : f_X5_isSignValue v0 = some oR) : ∀ l, MW l yX5_isSignValue wsX5_isSignValue ({ frames := 0, cells := 0, slots := 0, locals := 0 } : Room) D [.int v0] [] (some (.int oR)) [] := j_met (cc := cX5_isSignValue) (nl := 1) (rt := (some .boolean)) (own := RX5) (lv := [(0, .int v0)]) (by decide +kernel) rfl rfl rfl (Nat.le_of_ble_eq_true rfl) (fun G C => t_X5_isSignValue_0 C hf)

-- X5_set
theorem fl_X5_set_19 : Cond.fieldLink RX5 19 "CellsInRow" "now" "LCellsInRow$Row;" ∈ wsX5_set := by decide +kernel
theorem iw_X5_set_X5 : ∀ w ∈ wsX50, w ∈ wsX5_set := by decide +kernel
theorem fl_X5_set_131 : Cond.fieldLink RX5 131 "CellsInRow$Row" "plan" "[I" ∈ wsX5_set := by decide +kernel
theorem iw_X5_set_X1 : ∀ w ∈ wsX10, w ∈ wsX5_set := by decide +kernel
set_option maxHeartbeats 4000000 in
set_option maxRecDepth 100000 in
theorem t_X5_set_0 {G : jX} {D : va_G} {x0 p0 n0 o0 t0 s0 im0 sh0 cr0 nKindA nRoomA nChargeA nLeakA nPlanA : Nat} {v1 : Int32} {v2 : Int32} {xLatestTorn : Int32} {nCells : Int32} {nSigns : Int32} {nHour : Int32} {nStops : Int32} {nWaste : Int32} {nDone : Int32} {nBridged : Int32} {nKind : Nat → Int32} {nRoom : Nat → Int32} {nCharge : Nat → Int32} {nLeak : Nat → Int32} {nPlan : Nat → Int32} {oR : Int32} {oNPlan : Nat → Int32} (C : KC G D cX5_set RX5 wsX5_set ({ frames := 1, cells := 0, slots := 0, locals := 21 } : Room) 4 (some .int) (some (.int oR)) [(x0, .inr (5, [.ref p0, .ref n0, .ref o0, .ref t0, .ref s0, .ref im0, .ref sh0, .ref cr0, .int xLatestTorn])), (n0, .inr (1, [.int nCells, .int nSigns, .int nHour, .int nStops, .int nWaste, .int nDone, .int nBridged, .ref nKindA, .ref nRoomA, .ref nChargeA, .ref nLeakA, .ref nPlanA])), (nKindA, .inl (D.1 7, 5, .inl nKind)), (nRoomA, .inl (D.1 7, 5, .inl nRoom)), (nChargeA, .inl (D.1 7, 5, .inl nCharge)), (nLeakA, .inl (D.1 7, 5, .inl nLeak)), (nPlanA, .inl (D.1 7, 16, .inl oNPlan))]) (hf : f_X5_set v1 v2 nSigns nPlan = some (oR, oNPlan)) : JW G D 0 [(0, .ref x0), (1, .int v1), (2, .int v2)] [] [(x0, .inr (5, [.ref p0, .ref n0, .ref o0, .ref t0, .ref s0, .ref im0, .ref sh0, .ref cr0, .int xLatestTorn])), (n0, .inr (1, [.int nCells, .int nSigns, .int nHour, .int nStops, .int nWaste, .int nDone, .int nBridged, .ref nKindA, .ref nRoomA, .ref nChargeA, .ref nLeakA, .ref nPlanA])), (nKindA, .inl (D.1 7, 5, .inl nKind)), (nRoomA, .inl (D.1 7, 5, .inl nRoom)), (nChargeA, .inl (D.1 7, 5, .inl nCharge)), (nLeakA, .inl (D.1 7, 5, .inl nLeak)), (nPlanA, .inl (D.1 7, 16, .inl nPlan))] := by
  unfold f_X5_set at hf
  refine j_aload_n (pc := 0) C 0 rfl dX5_set_0 ?_
  refine j_iload_n (pc := 1) C 1 rfl dX5_set_1 ?_
  obtain ⟨a_1, hu, hf⟩ := ob1_some hf
  refine j_callV (pc := 2) (N := 7) (qr := 0) (ci := 5) [.int v1] [] [.int v1, .ref x0] [.int a_1] [(x0, .inr (5, [.ref p0, .ref n0, .ref o0, .ref t0, .ref s0, .ref im0, .ref sh0, .ref cr0, .int xLatestTorn])), (n0, .inr (1, [.int nCells, .int nSigns, .int nHour, .int nStops, .int nWaste, .int nDone, .int nBridged, .ref nKindA, .ref nRoomA, .ref nChargeA, .ref nLeakA, .ref nPlanA])), (nKindA, .inl (D.1 7, 5, .inl nKind)), (nRoomA, .inl (D.1 7, 5, .inl nRoom)), (nChargeA, .inl (D.1 7, 5, .inl nCharge)), (nLeakA, .inl (D.1 7, 5, .inl nLeak)), (nPlanA, .inl (D.1 7, 16, .inl nPlan))] [] [x0, n0, nKindA, nRoomA, nChargeA, nLeakA, nPlanA] [0, 1, 2, 3, 4, 5, 6] [] C (c_X5_isSign D x0 p0 n0 o0 t0 s0 im0 sh0 cr0 nKindA nRoomA nChargeA nLeakA nPlanA v1 xLatestTorn nCells nSigns nHour nStops nWaste nDone nBridged nKind nRoom nCharge nLeak nPlan a_1 hu) k_X5_isSign gX5_set_X5_isSign ⟨rfl, rfl⟩ ⟨Nat.le_of_ble_eq_true rfl, Nat.le_of_ble_eq_true rfl⟩ rfl rfl rfl rfl rfl rfl (Nat.le_of_ble_eq_true rfl) rfl rfl rfl rfl (by decide) (by decide) (by decide) rfl rfl rfl dX5_set_2 ?_
  refine j_if_eq (pc := 5) 15 C hf (by decide) dX5_set_5 (fun hf => ?_) (fun hf => ?_)
  · refine j_iconst (pc := 15) (-1) C (by decide) dX5_set_15 ?_
    obtain ⟨rfl, rfl⟩ := si2 hf
    exact j_iret (pc := 16) C dX5_set_16
  · refine j_iload_n (pc := 8) C 2 rfl dX5_set_8 ?_
    obtain ⟨a_2, hu, hf⟩ := ob1_some hf
    refine j_callS (pc := 9) (N := 7) [.int v2] [] [.int v2] [.int a_2] [(x0, .inr (5, [.ref p0, .ref n0, .ref o0, .ref t0, .ref s0, .ref im0, .ref sh0, .ref cr0, .int xLatestTorn])), (n0, .inr (1, [.int nCells, .int nSigns, .int nHour, .int nStops, .int nWaste, .int nDone, .int nBridged, .ref nKindA, .ref nRoomA, .ref nChargeA, .ref nLeakA, .ref nPlanA])), (nKindA, .inl (D.1 7, 5, .inl nKind)), (nRoomA, .inl (D.1 7, 5, .inl nRoom)), (nChargeA, .inl (D.1 7, 5, .inl nCharge)), (nLeakA, .inl (D.1 7, 5, .inl nLeak)), (nPlanA, .inl (D.1 7, 16, .inl nPlan))] [(x0, .inr (5, [.ref p0, .ref n0, .ref o0, .ref t0, .ref s0, .ref im0, .ref sh0, .ref cr0, .int xLatestTorn])), (n0, .inr (1, [.int nCells, .int nSigns, .int nHour, .int nStops, .int nWaste, .int nDone, .int nBridged, .ref nKindA, .ref nRoomA, .ref nChargeA, .ref nLeakA, .ref nPlanA])), (nKindA, .inl (D.1 7, 5, .inl nKind)), (nRoomA, .inl (D.1 7, 5, .inl nRoom)), (nChargeA, .inl (D.1 7, 5, .inl nCharge)), (nLeakA, .inl (D.1 7, 5, .inl nLeak)), (nPlanA, .inl (D.1 7, 16, .inl nPlan))] [x0, n0, nKindA, nRoomA, nChargeA, nLeakA, nPlanA] [] [0, 1, 2, 3, 4, 5, 6] C (c_X5_isSignValue D v2 a_2 hu) k_X5_isSignValue gX5_set_X5_isSignValue ⟨rfl, rfl⟩ ⟨Nat.le_of_ble_eq_true rfl, Nat.le_of_ble_eq_true rfl⟩ rfl rfl rfl (Nat.le_of_ble_eq_true rfl) rfl rfl rfl rfl (by decide) (by decide) (by decide) rfl rfl rfl dX5_set_9 ?_
    refine j_if_ne (pc := 12) 17 C hf (by decide) dX5_set_12 (fun hf => ?_) (fun hf => ?_)
    · refine j_aload_n (pc := 17) C 0 rfl dX5_set_17 ?_
      refine j_get (pc := 18) 0 5 1 C iw_X5_set_X5 rfl rfl (by decide) fl_X5_set_19 rfl rfl dX5_set_18 ?_
      refine j_get (pc := 21) 1 1 11 C iw_X5_set_X1 rfl rfl (by decide) fl_X5_set_131 rfl rfl dX5_set_21 ?_
      refine j_iload_n (pc := 24) C 1 rfl dX5_set_24 ?_
      refine j_iald (pc := 25) 6 C rfl hf dX5_set_25 (fun hf => ?_)
      refine j_bdi hf (fun y_3 hf => ?_)
      refine j_istore_n (pc := 26) 3 [(0, .ref x0), (1, .int v1), (2, .int v2), (3, .int y_3)] [1, 2, 3, 0] C rfl (by decide) rfl dX5_set_26 ?_
      refine j_aload_n (pc := 27) C 0 rfl dX5_set_27 ?_
      refine j_get (pc := 28) 0 5 1 C iw_X5_set_X5 rfl rfl (by decide) fl_X5_set_19 rfl rfl dX5_set_28 ?_
      refine j_get (pc := 31) 1 1 11 C iw_X5_set_X1 rfl rfl (by decide) fl_X5_set_131 rfl rfl dX5_set_31 ?_
      refine j_iload_n (pc := 34) C 1 rfl dX5_set_34 ?_
      refine j_iload_n (pc := 35) C 2 rfl dX5_set_35 ?_
      refine j_iast (pc := 36) 6 [(x0, .inr (5, [.ref p0, .ref n0, .ref o0, .ref t0, .ref s0, .ref im0, .ref sh0, .ref cr0, .int xLatestTorn])), (n0, .inr (1, [.int nCells, .int nSigns, .int nHour, .int nStops, .int nWaste, .int nDone, .int nBridged, .ref nKindA, .ref nRoomA, .ref nChargeA, .ref nLeakA, .ref nPlanA])), (nKindA, .inl (D.1 7, 5, .inl nKind)), (nRoomA, .inl (D.1 7, 5, .inl nRoom)), (nChargeA, .inl (D.1 7, 5, .inl nCharge)), (nLeakA, .inl (D.1 7, 5, .inl nLeak)), (nPlanA, .inl (D.1 7, 16, .inl (upd nPlan v1.toNatClampNeg v2)))] C rfl rfl hf dX5_set_36 (fun hf => ?_)
      refine j_iload_n (pc := 37) C 3 rfl dX5_set_37 ?_
      obtain ⟨rfl, rfl⟩ := si2 hf
      exact j_iret (pc := 38) C dX5_set_38
    · refine j_iconst (pc := 15) (-1) C (by decide) dX5_set_15 ?_
      obtain ⟨rfl, rfl⟩ := si2 hf
      exact j_iret (pc := 16) C dX5_set_16
theorem k_X5_set : CK yX5_set wsX5_set cX5_set 4 (some .int) 2 := ⟨rfl, by decide +kernel⟩
theorem c_X5_set (D : va_G) (x0 p0 n0 o0 t0 s0 im0 sh0 cr0 nKindA nRoomA nChargeA nLeakA nPlanA : Nat) (v1 : Int32) (v2 : Int32) (xLatestTorn : Int32) (nCells : Int32) (nSigns : Int32) (nHour : Int32) (nStops : Int32) (nWaste : Int32) (nDone : Int32) (nBridged : Int32) (nKind : Nat → Int32) (nRoom : Nat → Int32) (nCharge : Nat → Int32) (nLeak : Nat → Int32) (nPlan : Nat → Int32) (oR : Int32) (oNPlan : Nat → Int32) (hf : f_X5_set v1 v2 nSigns nPlan = some (oR, oNPlan)) : ∀ l, MW l yX5_set wsX5_set ({ frames := 1, cells := 0, slots := 0, locals := 21 } : Room) D [.ref x0, .int v1, .int v2] [(x0, .inr (5, [.ref p0, .ref n0, .ref o0, .ref t0, .ref s0, .ref im0, .ref sh0, .ref cr0, .int xLatestTorn])), (n0, .inr (1, [.int nCells, .int nSigns, .int nHour, .int nStops, .int nWaste, .int nDone, .int nBridged, .ref nKindA, .ref nRoomA, .ref nChargeA, .ref nLeakA, .ref nPlanA])), (nKindA, .inl (D.1 7, 5, .inl nKind)), (nRoomA, .inl (D.1 7, 5, .inl nRoom)), (nChargeA, .inl (D.1 7, 5, .inl nCharge)), (nLeakA, .inl (D.1 7, 5, .inl nLeak)), (nPlanA, .inl (D.1 7, 16, .inl nPlan))] (some (.int oR)) [(x0, .inr (5, [.ref p0, .ref n0, .ref o0, .ref t0, .ref s0, .ref im0, .ref sh0, .ref cr0, .int xLatestTorn])), (n0, .inr (1, [.int nCells, .int nSigns, .int nHour, .int nStops, .int nWaste, .int nDone, .int nBridged, .ref nKindA, .ref nRoomA, .ref nChargeA, .ref nLeakA, .ref nPlanA])), (nKindA, .inl (D.1 7, 5, .inl nKind)), (nRoomA, .inl (D.1 7, 5, .inl nRoom)), (nChargeA, .inl (D.1 7, 5, .inl nCharge)), (nLeakA, .inl (D.1 7, 5, .inl nLeak)), (nPlanA, .inl (D.1 7, 16, .inl oNPlan))] := j_met (cc := cX5_set) (nl := 4) (rt := (some .int)) (own := RX5) (lv := [(0, .ref x0), (1, .int v1), (2, .int v2)]) (by decide +kernel) rfl rfl rfl (Nat.le_of_ble_eq_true rfl) (fun G C => t_X5_set_0 C hf)

-- X5_add
theorem fl_X5_add_19 : Cond.fieldLink RX5 19 "CellsInRow" "now" "LCellsInRow$Row;" ∈ wsX5_add := by decide +kernel
theorem iw_X5_add_X5 : ∀ w ∈ wsX50, w ∈ wsX5_add := by decide +kernel
theorem fl_X5_add_87 : Cond.fieldLink RX5 87 "CellsInRow$Row" "signs" "I" ∈ wsX5_add := by decide +kernel
theorem iw_X5_add_X1 : ∀ w ∈ wsX10, w ∈ wsX5_add := by decide +kernel
set_option maxHeartbeats 4000000 in
set_option maxRecDepth 100000 in
theorem t_X5_add_0 {G : jX} {D : va_G} {x0 p0 n0 o0 t0 s0 im0 sh0 cr0 nKindA nRoomA nChargeA nLeakA nPlanA : Nat} {v1 : Int32} {xLatestTorn : Int32} {nCells : Int32} {nSigns : Int32} {nHour : Int32} {nStops : Int32} {nWaste : Int32} {nDone : Int32} {nBridged : Int32} {nKind : Nat → Int32} {nRoom : Nat → Int32} {nCharge : Nat → Int32} {nLeak : Nat → Int32} {nPlan : Nat → Int32} {oR : Int32} {oNSigns : Int32} {oNPlan : Nat → Int32} (C : KC G D cX5_add RX5 wsX5_add ({ frames := 1, cells := 0, slots := 0, locals := 21 } : Room) 2 (some .int) (some (.int oR)) [(x0, .inr (5, [.ref p0, .ref n0, .ref o0, .ref t0, .ref s0, .ref im0, .ref sh0, .ref cr0, .int xLatestTorn])), (n0, .inr (1, [.int nCells, .int oNSigns, .int nHour, .int nStops, .int nWaste, .int nDone, .int nBridged, .ref nKindA, .ref nRoomA, .ref nChargeA, .ref nLeakA, .ref nPlanA])), (nKindA, .inl (D.1 7, 5, .inl nKind)), (nRoomA, .inl (D.1 7, 5, .inl nRoom)), (nChargeA, .inl (D.1 7, 5, .inl nCharge)), (nLeakA, .inl (D.1 7, 5, .inl nLeak)), (nPlanA, .inl (D.1 7, 16, .inl oNPlan))]) (hf : f_X5_add v1 nSigns nPlan = some (oR, oNSigns, oNPlan)) : JW G D 0 [(0, .ref x0), (1, .int v1)] [] [(x0, .inr (5, [.ref p0, .ref n0, .ref o0, .ref t0, .ref s0, .ref im0, .ref sh0, .ref cr0, .int xLatestTorn])), (n0, .inr (1, [.int nCells, .int nSigns, .int nHour, .int nStops, .int nWaste, .int nDone, .int nBridged, .ref nKindA, .ref nRoomA, .ref nChargeA, .ref nLeakA, .ref nPlanA])), (nKindA, .inl (D.1 7, 5, .inl nKind)), (nRoomA, .inl (D.1 7, 5, .inl nRoom)), (nChargeA, .inl (D.1 7, 5, .inl nCharge)), (nLeakA, .inl (D.1 7, 5, .inl nLeak)), (nPlanA, .inl (D.1 7, 16, .inl nPlan))] := by
  unfold f_X5_add at hf
  refine j_iload_n (pc := 0) C 1 rfl dX5_add_0 ?_
  obtain ⟨a_1, hu, hf⟩ := ob1_some hf
  refine j_callS (pc := 1) (N := 7) [.int v1] [] [.int v1] [.int a_1] [(x0, .inr (5, [.ref p0, .ref n0, .ref o0, .ref t0, .ref s0, .ref im0, .ref sh0, .ref cr0, .int xLatestTorn])), (n0, .inr (1, [.int nCells, .int nSigns, .int nHour, .int nStops, .int nWaste, .int nDone, .int nBridged, .ref nKindA, .ref nRoomA, .ref nChargeA, .ref nLeakA, .ref nPlanA])), (nKindA, .inl (D.1 7, 5, .inl nKind)), (nRoomA, .inl (D.1 7, 5, .inl nRoom)), (nChargeA, .inl (D.1 7, 5, .inl nCharge)), (nLeakA, .inl (D.1 7, 5, .inl nLeak)), (nPlanA, .inl (D.1 7, 16, .inl nPlan))] [(x0, .inr (5, [.ref p0, .ref n0, .ref o0, .ref t0, .ref s0, .ref im0, .ref sh0, .ref cr0, .int xLatestTorn])), (n0, .inr (1, [.int nCells, .int nSigns, .int nHour, .int nStops, .int nWaste, .int nDone, .int nBridged, .ref nKindA, .ref nRoomA, .ref nChargeA, .ref nLeakA, .ref nPlanA])), (nKindA, .inl (D.1 7, 5, .inl nKind)), (nRoomA, .inl (D.1 7, 5, .inl nRoom)), (nChargeA, .inl (D.1 7, 5, .inl nCharge)), (nLeakA, .inl (D.1 7, 5, .inl nLeak)), (nPlanA, .inl (D.1 7, 16, .inl nPlan))] [x0, n0, nKindA, nRoomA, nChargeA, nLeakA, nPlanA] [] [0, 1, 2, 3, 4, 5, 6] C (c_X5_isSignValue D v1 a_1 hu) k_X5_isSignValue gX5_add_X5_isSignValue ⟨rfl, rfl⟩ ⟨Nat.le_of_ble_eq_true rfl, Nat.le_of_ble_eq_true rfl⟩ rfl rfl rfl (Nat.le_of_ble_eq_true rfl) rfl rfl rfl rfl (by decide) (by decide) (by decide) rfl rfl rfl dX5_add_1 ?_
  refine j_if_ne (pc := 4) 9 C hf (by decide) dX5_add_4 (fun hf => ?_) (fun hf => ?_)
  · refine j_aload_n (pc := 9) C 0 rfl dX5_add_9 ?_
    refine j_get (pc := 10) 0 5 1 C iw_X5_add_X5 rfl rfl (by decide) fl_X5_add_19 rfl rfl dX5_add_10 ?_
    refine j_get (pc := 13) 1 1 1 C iw_X5_add_X1 rfl rfl (by decide) fl_X5_add_87 rfl rfl dX5_add_13 ?_
    refine j_bipush (pc := 16) 16 C (by decide) dX5_add_16 ?_
    refine j_icmp_lt (pc := 18) 24 C hf (by decide) dX5_add_18 (fun hf => ?_) (fun hf => ?_)
    · refine j_aload_n (pc := 24) C 0 rfl dX5_add_24 ?_
      refine j_get (pc := 25) 0 5 1 C iw_X5_add_X5 rfl rfl (by decide) fl_X5_add_19 rfl rfl dX5_add_25 ?_
      refine j_iload_n (pc := 28) C 1 rfl dX5_add_28 ?_
      obtain ⟨nSigns_2, nPlan_3, hu, hf⟩ := ob2_some hf
      refine j_callV (pc := 29) (N := 7) (qr := 1) (ci := 1) [.int v1] [] [.int v1, .ref n0] [] [(x0, .inr (5, [.ref p0, .ref n0, .ref o0, .ref t0, .ref s0, .ref im0, .ref sh0, .ref cr0, .int xLatestTorn])), (n0, .inr (1, [.int nCells, .int nSigns_2, .int nHour, .int nStops, .int nWaste, .int nDone, .int nBridged, .ref nKindA, .ref nRoomA, .ref nChargeA, .ref nLeakA, .ref nPlanA])), (nKindA, .inl (D.1 7, 5, .inl nKind)), (nRoomA, .inl (D.1 7, 5, .inl nRoom)), (nChargeA, .inl (D.1 7, 5, .inl nCharge)), (nLeakA, .inl (D.1 7, 5, .inl nLeak)), (nPlanA, .inl (D.1 7, 16, .inl nPlan_3))] [(x0, .inr (5, [.ref p0, .ref n0, .ref o0, .ref t0, .ref s0, .ref im0, .ref sh0, .ref cr0, .int xLatestTorn]))] [x0, n0, nKindA, nRoomA, nChargeA, nLeakA, nPlanA] [1, 2, 3, 4, 5, 6] [0] C (c_X1_appendSign D n0 nKindA nRoomA nChargeA nLeakA nPlanA v1 nCells nSigns nHour nStops nWaste nDone nBridged nKind nRoom nCharge nLeak nPlan nSigns_2 nPlan_3 hu) k_X1_appendSign gX5_add_X1_appendSign ⟨rfl, rfl⟩ ⟨Nat.le_of_ble_eq_true rfl, Nat.le_of_ble_eq_true rfl⟩ rfl rfl rfl rfl rfl rfl (Nat.le_of_ble_eq_true rfl) rfl rfl rfl rfl (by decide) (by decide) (by decide) rfl rfl rfl dX5_add_29 ?_
      refine j_aload_n (pc := 32) C 0 rfl dX5_add_32 ?_
      refine j_get (pc := 33) 0 5 1 C iw_X5_add_X5 rfl rfl (by decide) fl_X5_add_19 rfl rfl dX5_add_33 ?_
      refine j_get (pc := 36) 1 1 1 C iw_X5_add_X1 rfl rfl (by decide) fl_X5_add_87 rfl rfl dX5_add_36 ?_
      obtain ⟨rfl, rfl, rfl⟩ := si3 hf
      exact j_iret (pc := 39) C dX5_add_39
    · refine j_bipush (pc := 21) (-3) C (by decide) dX5_add_21 ?_
      obtain ⟨rfl, rfl, rfl⟩ := si3 hf
      exact j_iret (pc := 23) C dX5_add_23
  · refine j_iconst (pc := 7) (-1) C (by decide) dX5_add_7 ?_
    obtain ⟨rfl, rfl, rfl⟩ := si3 hf
    exact j_iret (pc := 8) C dX5_add_8
theorem k_X5_add : CK yX5_add wsX5_add cX5_add 2 (some .int) 1 := ⟨rfl, by decide +kernel⟩
theorem c_X5_add (D : va_G) (x0 p0 n0 o0 t0 s0 im0 sh0 cr0 nKindA nRoomA nChargeA nLeakA nPlanA : Nat) (v1 : Int32) (xLatestTorn : Int32) (nCells : Int32) (nSigns : Int32) (nHour : Int32) (nStops : Int32) (nWaste : Int32) (nDone : Int32) (nBridged : Int32) (nKind : Nat → Int32) (nRoom : Nat → Int32) (nCharge : Nat → Int32) (nLeak : Nat → Int32) (nPlan : Nat → Int32) (oR : Int32) (oNSigns : Int32) (oNPlan : Nat → Int32) (hf : f_X5_add v1 nSigns nPlan = some (oR, oNSigns, oNPlan)) : ∀ l, MW l yX5_add wsX5_add ({ frames := 1, cells := 0, slots := 0, locals := 21 } : Room) D [.ref x0, .int v1] [(x0, .inr (5, [.ref p0, .ref n0, .ref o0, .ref t0, .ref s0, .ref im0, .ref sh0, .ref cr0, .int xLatestTorn])), (n0, .inr (1, [.int nCells, .int nSigns, .int nHour, .int nStops, .int nWaste, .int nDone, .int nBridged, .ref nKindA, .ref nRoomA, .ref nChargeA, .ref nLeakA, .ref nPlanA])), (nKindA, .inl (D.1 7, 5, .inl nKind)), (nRoomA, .inl (D.1 7, 5, .inl nRoom)), (nChargeA, .inl (D.1 7, 5, .inl nCharge)), (nLeakA, .inl (D.1 7, 5, .inl nLeak)), (nPlanA, .inl (D.1 7, 16, .inl nPlan))] (some (.int oR)) [(x0, .inr (5, [.ref p0, .ref n0, .ref o0, .ref t0, .ref s0, .ref im0, .ref sh0, .ref cr0, .int xLatestTorn])), (n0, .inr (1, [.int nCells, .int oNSigns, .int nHour, .int nStops, .int nWaste, .int nDone, .int nBridged, .ref nKindA, .ref nRoomA, .ref nChargeA, .ref nLeakA, .ref nPlanA])), (nKindA, .inl (D.1 7, 5, .inl nKind)), (nRoomA, .inl (D.1 7, 5, .inl nRoom)), (nChargeA, .inl (D.1 7, 5, .inl nCharge)), (nLeakA, .inl (D.1 7, 5, .inl nLeak)), (nPlanA, .inl (D.1 7, 16, .inl oNPlan))] := j_met (cc := cX5_add) (nl := 2) (rt := (some .int)) (own := RX5) (lv := [(0, .ref x0), (1, .int v1)]) (by decide +kernel) rfl rfl rfl (Nat.le_of_ble_eq_true rfl) (fun G C => t_X5_add_0 C hf)

-- X5_cut
theorem fl_X5_cut_19 : Cond.fieldLink RX5 19 "CellsInRow" "now" "LCellsInRow$Row;" ∈ wsX5_cut := by decide +kernel
theorem iw_X5_cut_X5 : ∀ w ∈ wsX50, w ∈ wsX5_cut := by decide +kernel
theorem fl_X5_cut_87 : Cond.fieldLink RX5 87 "CellsInRow$Row" "signs" "I" ∈ wsX5_cut := by decide +kernel
theorem iw_X5_cut_X1 : ∀ w ∈ wsX10, w ∈ wsX5_cut := by decide +kernel
set_option maxHeartbeats 4000000 in
set_option maxRecDepth 100000 in
theorem t_X5_cut_0 {G : jX} {D : va_G} {x0 p0 n0 o0 t0 s0 im0 sh0 cr0 nKindA nRoomA nChargeA nLeakA nPlanA : Nat} {v1 : Int32} {xLatestTorn : Int32} {nCells : Int32} {nSigns : Int32} {nHour : Int32} {nStops : Int32} {nWaste : Int32} {nDone : Int32} {nBridged : Int32} {nKind : Nat → Int32} {nRoom : Nat → Int32} {nCharge : Nat → Int32} {nLeak : Nat → Int32} {nPlan : Nat → Int32} {oR : Int32} {oNSigns : Int32} (C : KC G D cX5_cut RX5 wsX5_cut ({ frames := 0, cells := 0, slots := 0, locals := 0 } : Room) 3 (some .int) (some (.int oR)) [(x0, .inr (5, [.ref p0, .ref n0, .ref o0, .ref t0, .ref s0, .ref im0, .ref sh0, .ref cr0, .int xLatestTorn])), (n0, .inr (1, [.int nCells, .int oNSigns, .int nHour, .int nStops, .int nWaste, .int nDone, .int nBridged, .ref nKindA, .ref nRoomA, .ref nChargeA, .ref nLeakA, .ref nPlanA])), (nKindA, .inl (D.1 7, 5, .inl nKind)), (nRoomA, .inl (D.1 7, 5, .inl nRoom)), (nChargeA, .inl (D.1 7, 5, .inl nCharge)), (nLeakA, .inl (D.1 7, 5, .inl nLeak)), (nPlanA, .inl (D.1 7, 16, .inl nPlan))]) (hf : f_X5_cut v1 nSigns = some (oR, oNSigns)) : JW G D 0 [(0, .ref x0), (1, .int v1)] [] [(x0, .inr (5, [.ref p0, .ref n0, .ref o0, .ref t0, .ref s0, .ref im0, .ref sh0, .ref cr0, .int xLatestTorn])), (n0, .inr (1, [.int nCells, .int nSigns, .int nHour, .int nStops, .int nWaste, .int nDone, .int nBridged, .ref nKindA, .ref nRoomA, .ref nChargeA, .ref nLeakA, .ref nPlanA])), (nKindA, .inl (D.1 7, 5, .inl nKind)), (nRoomA, .inl (D.1 7, 5, .inl nRoom)), (nChargeA, .inl (D.1 7, 5, .inl nCharge)), (nLeakA, .inl (D.1 7, 5, .inl nLeak)), (nPlanA, .inl (D.1 7, 16, .inl nPlan))] := by
  unfold f_X5_cut at hf
  refine j_iload_n (pc := 0) C 1 rfl dX5_cut_0 ?_
  refine j_if_lt (pc := 1) 15 C hf (by decide) dX5_cut_1 (fun hf => ?_) (fun hf => ?_)
  · refine j_iconst (pc := 15) (-1) C (by decide) dX5_cut_15 ?_
    obtain ⟨rfl, rfl⟩ := si2 hf
    exact j_iret (pc := 16) C dX5_cut_16
  · refine j_iload_n (pc := 4) C 1 rfl dX5_cut_4 ?_
    refine j_aload_n (pc := 5) C 0 rfl dX5_cut_5 ?_
    refine j_get (pc := 6) 0 5 1 C iw_X5_cut_X5 rfl rfl (by decide) fl_X5_cut_19 rfl rfl dX5_cut_6 ?_
    refine j_get (pc := 9) 1 1 1 C iw_X5_cut_X1 rfl rfl (by decide) fl_X5_cut_87 rfl rfl dX5_cut_9 ?_
    refine j_icmp_le (pc := 12) 17 C hf (by decide) dX5_cut_12 (fun hf => ?_) (fun hf => ?_)
    · refine j_aload_n (pc := 17) C 0 rfl dX5_cut_17 ?_
      refine j_get (pc := 18) 0 5 1 C iw_X5_cut_X5 rfl rfl (by decide) fl_X5_cut_19 rfl rfl dX5_cut_18 ?_
      refine j_get (pc := 21) 1 1 1 C iw_X5_cut_X1 rfl rfl (by decide) fl_X5_cut_87 rfl rfl dX5_cut_21 ?_
      refine j_istore_n (pc := 24) 2 [(0, .ref x0), (1, .int v1), (2, .int nSigns)] [1, 2, 0] C rfl (by decide) rfl dX5_cut_24 ?_
      refine j_aload_n (pc := 25) C 0 rfl dX5_cut_25 ?_
      refine j_get (pc := 26) 0 5 1 C iw_X5_cut_X5 rfl rfl (by decide) fl_X5_cut_19 rfl rfl dX5_cut_26 ?_
      refine j_iload_n (pc := 29) C 1 rfl dX5_cut_29 ?_
      refine j_put (pc := 30) (ty := .int) 1 1 1 [(x0, .inr (5, [.ref p0, .ref n0, .ref o0, .ref t0, .ref s0, .ref im0, .ref sh0, .ref cr0, .int xLatestTorn])), (n0, .inr (1, [.int nCells, .int v1, .int nHour, .int nStops, .int nWaste, .int nDone, .int nBridged, .ref nKindA, .ref nRoomA, .ref nChargeA, .ref nLeakA, .ref nPlanA])), (nKindA, .inl (D.1 7, 5, .inl nKind)), (nRoomA, .inl (D.1 7, 5, .inl nRoom)), (nChargeA, .inl (D.1 7, 5, .inl nCharge)), (nLeakA, .inl (D.1 7, 5, .inl nLeak)), (nPlanA, .inl (D.1 7, 16, .inl nPlan))] C iw_X5_cut_X1 tyX1 tyX1_ok nmX1 rfl rfl (by decide) fl_X5_cut_87 rfl rfl rfl rfl rfl (Nat.le_of_ble_eq_true rfl) rfl dX5_cut_30 ?_
      refine j_iload_n (pc := 33) C 2 rfl dX5_cut_33 ?_
      obtain ⟨rfl, rfl⟩ := si2 hf
      exact j_iret (pc := 34) C dX5_cut_34
    · refine j_iconst (pc := 15) (-1) C (by decide) dX5_cut_15 ?_
      obtain ⟨rfl, rfl⟩ := si2 hf
      exact j_iret (pc := 16) C dX5_cut_16
theorem k_X5_cut : CK yX5_cut wsX5_cut cX5_cut 3 (some .int) 1 := ⟨rfl, by decide +kernel⟩
theorem c_X5_cut (D : va_G) (x0 p0 n0 o0 t0 s0 im0 sh0 cr0 nKindA nRoomA nChargeA nLeakA nPlanA : Nat) (v1 : Int32) (xLatestTorn : Int32) (nCells : Int32) (nSigns : Int32) (nHour : Int32) (nStops : Int32) (nWaste : Int32) (nDone : Int32) (nBridged : Int32) (nKind : Nat → Int32) (nRoom : Nat → Int32) (nCharge : Nat → Int32) (nLeak : Nat → Int32) (nPlan : Nat → Int32) (oR : Int32) (oNSigns : Int32) (hf : f_X5_cut v1 nSigns = some (oR, oNSigns)) : ∀ l, MW l yX5_cut wsX5_cut ({ frames := 0, cells := 0, slots := 0, locals := 0 } : Room) D [.ref x0, .int v1] [(x0, .inr (5, [.ref p0, .ref n0, .ref o0, .ref t0, .ref s0, .ref im0, .ref sh0, .ref cr0, .int xLatestTorn])), (n0, .inr (1, [.int nCells, .int nSigns, .int nHour, .int nStops, .int nWaste, .int nDone, .int nBridged, .ref nKindA, .ref nRoomA, .ref nChargeA, .ref nLeakA, .ref nPlanA])), (nKindA, .inl (D.1 7, 5, .inl nKind)), (nRoomA, .inl (D.1 7, 5, .inl nRoom)), (nChargeA, .inl (D.1 7, 5, .inl nCharge)), (nLeakA, .inl (D.1 7, 5, .inl nLeak)), (nPlanA, .inl (D.1 7, 16, .inl nPlan))] (some (.int oR)) [(x0, .inr (5, [.ref p0, .ref n0, .ref o0, .ref t0, .ref s0, .ref im0, .ref sh0, .ref cr0, .int xLatestTorn])), (n0, .inr (1, [.int nCells, .int oNSigns, .int nHour, .int nStops, .int nWaste, .int nDone, .int nBridged, .ref nKindA, .ref nRoomA, .ref nChargeA, .ref nLeakA, .ref nPlanA])), (nKindA, .inl (D.1 7, 5, .inl nKind)), (nRoomA, .inl (D.1 7, 5, .inl nRoom)), (nChargeA, .inl (D.1 7, 5, .inl nCharge)), (nLeakA, .inl (D.1 7, 5, .inl nLeak)), (nPlanA, .inl (D.1 7, 16, .inl nPlan))] := j_met (cc := cX5_cut) (nl := 3) (rt := (some .int)) (own := RX5) (lv := [(0, .ref x0), (1, .int v1)]) (by decide +kernel) rfl rfl rfl (Nat.le_of_ble_eq_true rfl) (fun G C => t_X5_cut_0 C hf)

-- X5_send
theorem fl_X5_send_19 : Cond.fieldLink RX5 19 "CellsInRow" "now" "LCellsInRow$Row;" ∈ wsX5_send := by decide +kernel
theorem iw_X5_send_X5 : ∀ w ∈ wsX50, w ∈ wsX5_send := by decide +kernel
set_option maxHeartbeats 4000000 in
set_option maxRecDepth 100000 in
theorem t_X5_send_0 {G : jX} {D : va_G} {x0 p0 n0 o0 t0 s0 im0 sh0 cr0 nKindA nRoomA nChargeA nLeakA nPlanA : Nat} {v1 : Int32} {xLatestTorn : Int32} {nCells : Int32} {nSigns : Int32} {nHour : Int32} {nStops : Int32} {nWaste : Int32} {nDone : Int32} {nBridged : Int32} {nKind : Nat → Int32} {nRoom : Nat → Int32} {nCharge : Nat → Int32} {nLeak : Nat → Int32} {nPlan : Nat → Int32} {oR : Int32} {oNStops : Int32} {oNWaste : Int32} {oNDone : Int32} {oNCharge : Nat → Int32} (C : KC G D cX5_send RX5 wsX5_send ({ frames := 3, cells := 0, slots := 0, locals := 69 } : Room) 2 (some .int) (some (.int oR)) [(x0, .inr (5, [.ref p0, .ref n0, .ref o0, .ref t0, .ref s0, .ref im0, .ref sh0, .ref cr0, .int xLatestTorn])), (n0, .inr (1, [.int nCells, .int nSigns, .int nHour, .int oNStops, .int oNWaste, .int oNDone, .int nBridged, .ref nKindA, .ref nRoomA, .ref nChargeA, .ref nLeakA, .ref nPlanA])), (nKindA, .inl (D.1 7, 5, .inl nKind)), (nRoomA, .inl (D.1 7, 5, .inl nRoom)), (nChargeA, .inl (D.1 7, 5, .inl oNCharge)), (nLeakA, .inl (D.1 7, 5, .inl nLeak)), (nPlanA, .inl (D.1 7, 16, .inl nPlan))]) (hf : f_X5_send v1 nCells nStops nWaste nDone nBridged nKind nRoom nCharge = some (oR, oNStops, oNWaste, oNDone, oNCharge)) : JW G D 0 [(0, .ref x0), (1, .int v1)] [] [(x0, .inr (5, [.ref p0, .ref n0, .ref o0, .ref t0, .ref s0, .ref im0, .ref sh0, .ref cr0, .int xLatestTorn])), (n0, .inr (1, [.int nCells, .int nSigns, .int nHour, .int nStops, .int nWaste, .int nDone, .int nBridged, .ref nKindA, .ref nRoomA, .ref nChargeA, .ref nLeakA, .ref nPlanA])), (nKindA, .inl (D.1 7, 5, .inl nKind)), (nRoomA, .inl (D.1 7, 5, .inl nRoom)), (nChargeA, .inl (D.1 7, 5, .inl nCharge)), (nLeakA, .inl (D.1 7, 5, .inl nLeak)), (nPlanA, .inl (D.1 7, 16, .inl nPlan))] := by
  unfold f_X5_send at hf
  refine j_iload_n (pc := 0) C 1 rfl dX5_send_0 ?_
  obtain ⟨a_1, hu, hf⟩ := ob1_some hf
  refine j_callS (pc := 1) (N := 7) [.int v1] [] [.int v1] [.int a_1] [(x0, .inr (5, [.ref p0, .ref n0, .ref o0, .ref t0, .ref s0, .ref im0, .ref sh0, .ref cr0, .int xLatestTorn])), (n0, .inr (1, [.int nCells, .int nSigns, .int nHour, .int nStops, .int nWaste, .int nDone, .int nBridged, .ref nKindA, .ref nRoomA, .ref nChargeA, .ref nLeakA, .ref nPlanA])), (nKindA, .inl (D.1 7, 5, .inl nKind)), (nRoomA, .inl (D.1 7, 5, .inl nRoom)), (nChargeA, .inl (D.1 7, 5, .inl nCharge)), (nLeakA, .inl (D.1 7, 5, .inl nLeak)), (nPlanA, .inl (D.1 7, 16, .inl nPlan))] [(x0, .inr (5, [.ref p0, .ref n0, .ref o0, .ref t0, .ref s0, .ref im0, .ref sh0, .ref cr0, .int xLatestTorn])), (n0, .inr (1, [.int nCells, .int nSigns, .int nHour, .int nStops, .int nWaste, .int nDone, .int nBridged, .ref nKindA, .ref nRoomA, .ref nChargeA, .ref nLeakA, .ref nPlanA])), (nKindA, .inl (D.1 7, 5, .inl nKind)), (nRoomA, .inl (D.1 7, 5, .inl nRoom)), (nChargeA, .inl (D.1 7, 5, .inl nCharge)), (nLeakA, .inl (D.1 7, 5, .inl nLeak)), (nPlanA, .inl (D.1 7, 16, .inl nPlan))] [x0, n0, nKindA, nRoomA, nChargeA, nLeakA, nPlanA] [] [0, 1, 2, 3, 4, 5, 6] C (c_X5_isSignValue D v1 a_1 hu) k_X5_isSignValue gX5_send_X5_isSignValue ⟨rfl, rfl⟩ ⟨Nat.le_of_ble_eq_true rfl, Nat.le_of_ble_eq_true rfl⟩ rfl rfl rfl (Nat.le_of_ble_eq_true rfl) rfl rfl rfl rfl (by decide) (by decide) (by decide) rfl rfl rfl dX5_send_1 ?_
  refine j_if_ne (pc := 4) 9 C hf (by decide) dX5_send_4 (fun hf => ?_) (fun hf => ?_)
  · refine j_aload_n (pc := 9) C 0 rfl dX5_send_9 ?_
    refine j_get (pc := 10) 0 5 1 C iw_X5_send_X5 rfl rfl (by decide) fl_X5_send_19 rfl rfl dX5_send_10 ?_
    refine j_iload_n (pc := 13) C 1 rfl dX5_send_13 ?_
    refine j_bipush (pc := 14) 9 C (by decide) dX5_send_14 ?_
    refine j_isub (pc := 16) C dX5_send_16 ?_
    obtain ⟨a_2, nStops_3, nWaste_4, nDone_5, nCharge_6, hu, hf⟩ := ob5_some hf
    refine j_callV (pc := 17) (N := 7) (qr := 1) (ci := 1) [.int (v1 - 9)] [] [.int (v1 - 9), .ref n0] [.int a_2] [(x0, .inr (5, [.ref p0, .ref n0, .ref o0, .ref t0, .ref s0, .ref im0, .ref sh0, .ref cr0, .int xLatestTorn])), (n0, .inr (1, [.int nCells, .int nSigns, .int nHour, .int nStops_3, .int nWaste_4, .int nDone_5, .int nBridged, .ref nKindA, .ref nRoomA, .ref nChargeA, .ref nLeakA, .ref nPlanA])), (nKindA, .inl (D.1 7, 5, .inl nKind)), (nRoomA, .inl (D.1 7, 5, .inl nRoom)), (nChargeA, .inl (D.1 7, 5, .inl nCharge_6)), (nLeakA, .inl (D.1 7, 5, .inl nLeak)), (nPlanA, .inl (D.1 7, 16, .inl nPlan))] [(x0, .inr (5, [.ref p0, .ref n0, .ref o0, .ref t0, .ref s0, .ref im0, .ref sh0, .ref cr0, .int xLatestTorn]))] [x0, n0, nKindA, nRoomA, nChargeA, nLeakA, nPlanA] [1, 2, 3, 4, 5, 6] [0] C (c_X1_stoppedBySending D n0 nKindA nRoomA nChargeA nLeakA nPlanA (v1 - 9) nCells nSigns nHour nStops nWaste nDone nBridged nKind nRoom nCharge nLeak nPlan a_2 nStops_3 nWaste_4 nDone_5 nCharge_6 hu) k_X1_stoppedBySending gX5_send_X1_stoppedBySending ⟨rfl, rfl⟩ ⟨Nat.le_of_ble_eq_true rfl, Nat.le_of_ble_eq_true rfl⟩ rfl rfl rfl rfl rfl rfl (Nat.le_of_ble_eq_true rfl) rfl rfl rfl rfl (by decide) (by decide) (by decide) rfl rfl rfl dX5_send_17 ?_
    refine j_if_eq (pc := 20) 27 C hf (by decide) dX5_send_20 (fun hf => ?_) (fun hf => ?_)
    · refine j_iconst (pc := 27) 0 C (by decide) dX5_send_27 ?_
      obtain ⟨rfl, rfl, rfl, rfl, rfl⟩ := si5 hf
      exact j_iret (pc := 28) C dX5_send_28
    · refine j_iconst (pc := 23) 1 C (by decide) dX5_send_23 ?_
      refine j_goto (pc := 24) 28 C (by decide) dX5_send_24 ?_
      obtain ⟨rfl, rfl, rfl, rfl, rfl⟩ := si5 hf
      exact j_iret (pc := 28) C dX5_send_28
  · refine j_iconst (pc := 7) (-1) C (by decide) dX5_send_7 ?_
    obtain ⟨rfl, rfl, rfl, rfl, rfl⟩ := si5 hf
    exact j_iret (pc := 8) C dX5_send_8
theorem k_X5_send : CK yX5_send wsX5_send cX5_send 2 (some .int) 1 := ⟨rfl, by decide +kernel⟩
theorem c_X5_send (D : va_G) (x0 p0 n0 o0 t0 s0 im0 sh0 cr0 nKindA nRoomA nChargeA nLeakA nPlanA : Nat) (v1 : Int32) (xLatestTorn : Int32) (nCells : Int32) (nSigns : Int32) (nHour : Int32) (nStops : Int32) (nWaste : Int32) (nDone : Int32) (nBridged : Int32) (nKind : Nat → Int32) (nRoom : Nat → Int32) (nCharge : Nat → Int32) (nLeak : Nat → Int32) (nPlan : Nat → Int32) (oR : Int32) (oNStops : Int32) (oNWaste : Int32) (oNDone : Int32) (oNCharge : Nat → Int32) (hf : f_X5_send v1 nCells nStops nWaste nDone nBridged nKind nRoom nCharge = some (oR, oNStops, oNWaste, oNDone, oNCharge)) : ∀ l, MW l yX5_send wsX5_send ({ frames := 3, cells := 0, slots := 0, locals := 69 } : Room) D [.ref x0, .int v1] [(x0, .inr (5, [.ref p0, .ref n0, .ref o0, .ref t0, .ref s0, .ref im0, .ref sh0, .ref cr0, .int xLatestTorn])), (n0, .inr (1, [.int nCells, .int nSigns, .int nHour, .int nStops, .int nWaste, .int nDone, .int nBridged, .ref nKindA, .ref nRoomA, .ref nChargeA, .ref nLeakA, .ref nPlanA])), (nKindA, .inl (D.1 7, 5, .inl nKind)), (nRoomA, .inl (D.1 7, 5, .inl nRoom)), (nChargeA, .inl (D.1 7, 5, .inl nCharge)), (nLeakA, .inl (D.1 7, 5, .inl nLeak)), (nPlanA, .inl (D.1 7, 16, .inl nPlan))] (some (.int oR)) [(x0, .inr (5, [.ref p0, .ref n0, .ref o0, .ref t0, .ref s0, .ref im0, .ref sh0, .ref cr0, .int xLatestTorn])), (n0, .inr (1, [.int nCells, .int nSigns, .int nHour, .int oNStops, .int oNWaste, .int oNDone, .int nBridged, .ref nKindA, .ref nRoomA, .ref nChargeA, .ref nLeakA, .ref nPlanA])), (nKindA, .inl (D.1 7, 5, .inl nKind)), (nRoomA, .inl (D.1 7, 5, .inl nRoom)), (nChargeA, .inl (D.1 7, 5, .inl oNCharge)), (nLeakA, .inl (D.1 7, 5, .inl nLeak)), (nPlanA, .inl (D.1 7, 16, .inl nPlan))] := j_met (cc := cX5_send) (nl := 2) (rt := (some .int)) (own := RX5) (lv := [(0, .ref x0), (1, .int v1)]) (by decide +kernel) rfl rfl rfl (Nat.le_of_ble_eq_true rfl) (fun G C => t_X5_send_0 C hf)

-- X5_hours
theorem fl_X5_hours_19 : Cond.fieldLink RX5 19 "CellsInRow" "now" "LCellsInRow$Row;" ∈ wsX5_hours := by decide +kernel
theorem iw_X5_hours_X5 : ∀ w ∈ wsX50, w ∈ wsX5_hours := by decide +kernel
theorem fl_X5_hours_90 : Cond.fieldLink RX5 90 "CellsInRow$Row" "hour" "I" ∈ wsX5_hours := by decide +kernel
theorem iw_X5_hours_X1 : ∀ w ∈ wsX10, w ∈ wsX5_hours := by decide +kernel
set_option maxHeartbeats 4000000 in
set_option maxRecDepth 100000 in
theorem t_X5_hours_0 {G : jX} {D : va_G} {x0 p0 n0 o0 t0 s0 im0 sh0 cr0 nKindA nRoomA nChargeA nLeakA nPlanA : Nat} {v1 : Int32} {xLatestTorn : Int32} {nCells : Int32} {nSigns : Int32} {nHour : Int32} {nStops : Int32} {nWaste : Int32} {nDone : Int32} {nBridged : Int32} {nKind : Nat → Int32} {nRoom : Nat → Int32} {nCharge : Nat → Int32} {nLeak : Nat → Int32} {nPlan : Nat → Int32} {oR : Int32} {oNHour : Int32} {oNStops : Int32} {oNWaste : Int32} {oNDone : Int32} {oNCharge : Nat → Int32} (C : KC G D cX5_hours RX5 wsX5_hours ({ frames := 5, cells := 0, slots := 0, locals := 115 } : Room) 2 (some .int) (some (.int oR)) [(x0, .inr (5, [.ref p0, .ref n0, .ref o0, .ref t0, .ref s0, .ref im0, .ref sh0, .ref cr0, .int xLatestTorn])), (n0, .inr (1, [.int nCells, .int nSigns, .int oNHour, .int oNStops, .int oNWaste, .int oNDone, .int nBridged, .ref nKindA, .ref nRoomA, .ref nChargeA, .ref nLeakA, .ref nPlanA])), (nKindA, .inl (D.1 7, 5, .inl nKind)), (nRoomA, .inl (D.1 7, 5, .inl nRoom)), (nChargeA, .inl (D.1 7, 5, .inl oNCharge)), (nLeakA, .inl (D.1 7, 5, .inl nLeak)), (nPlanA, .inl (D.1 7, 16, .inl nPlan))]) (hf : f_X5_hours v1 nCells nSigns nHour nStops nWaste nDone nBridged nKind nRoom nCharge nLeak nPlan = some (oR, oNHour, oNStops, oNWaste, oNDone, oNCharge)) : JW G D 0 [(0, .ref x0), (1, .int v1)] [] [(x0, .inr (5, [.ref p0, .ref n0, .ref o0, .ref t0, .ref s0, .ref im0, .ref sh0, .ref cr0, .int xLatestTorn])), (n0, .inr (1, [.int nCells, .int nSigns, .int nHour, .int nStops, .int nWaste, .int nDone, .int nBridged, .ref nKindA, .ref nRoomA, .ref nChargeA, .ref nLeakA, .ref nPlanA])), (nKindA, .inl (D.1 7, 5, .inl nKind)), (nRoomA, .inl (D.1 7, 5, .inl nRoom)), (nChargeA, .inl (D.1 7, 5, .inl nCharge)), (nLeakA, .inl (D.1 7, 5, .inl nLeak)), (nPlanA, .inl (D.1 7, 16, .inl nPlan))] := by
  unfold f_X5_hours at hf
  refine j_iload_n (pc := 0) C 1 rfl dX5_hours_0 ?_
  refine j_if_lt (pc := 1) 10 C hf (by decide) dX5_hours_1 (fun hf => ?_) (fun hf => ?_)
  · refine j_iconst (pc := 10) (-1) C (by decide) dX5_hours_10 ?_
    obtain ⟨rfl, rfl, rfl, rfl, rfl, rfl⟩ := si6 hf
    exact j_iret (pc := 11) C dX5_hours_11
  · refine j_iload_n (pc := 4) C 1 rfl dX5_hours_4 ?_
    refine j_bipush (pc := 5) 100 C (by decide) dX5_hours_5 ?_
    refine j_icmp_le (pc := 7) 12 C hf (by decide) dX5_hours_7 (fun hf => ?_) (fun hf => ?_)
    · refine j_aload_n (pc := 12) C 0 rfl dX5_hours_12 ?_
      refine j_get (pc := 13) 0 5 1 C iw_X5_hours_X5 rfl rfl (by decide) fl_X5_hours_19 rfl rfl dX5_hours_13 ?_
      refine j_get (pc := 16) 1 1 2 C iw_X5_hours_X1 rfl rfl (by decide) fl_X5_hours_90 rfl rfl dX5_hours_16 ?_
      refine j_iload_n (pc := 19) C 1 rfl dX5_hours_19 ?_
      refine j_iadd (pc := 20) C dX5_hours_20 ?_
      refine j_sipush (pc := 21) 9999 C (by decide) dX5_hours_21 ?_
      refine j_icmp_le (pc := 24) 30 C hf (by decide) dX5_hours_24 (fun hf => ?_) (fun hf => ?_)
      · refine j_aload_n (pc := 30) C 0 rfl dX5_hours_30 ?_
        refine j_get (pc := 31) 0 5 1 C iw_X5_hours_X5 rfl rfl (by decide) fl_X5_hours_19 rfl rfl dX5_hours_31 ?_
        refine j_iload_n (pc := 34) C 1 rfl dX5_hours_34 ?_
        obtain ⟨a_1, nHour_2, nStops_3, nWaste_4, nDone_5, nCharge_6, hu, hf⟩ := ob6_some hf
        refine j_callV (pc := 35) (N := 7) (qr := 1) (ci := 1) [.int v1] [] [.int v1, .ref n0] [.int a_1] [(x0, .inr (5, [.ref p0, .ref n0, .ref o0, .ref t0, .ref s0, .ref im0, .ref sh0, .ref cr0, .int xLatestTorn])), (n0, .inr (1, [.int nCells, .int nSigns, .int nHour_2, .int nStops_3, .int nWaste_4, .int nDone_5, .int nBridged, .ref nKindA, .ref nRoomA, .ref nChargeA, .ref nLeakA, .ref nPlanA])), (nKindA, .inl (D.1 7, 5, .inl nKind)), (nRoomA, .inl (D.1 7, 5, .inl nRoom)), (nChargeA, .inl (D.1 7, 5, .inl nCharge_6)), (nLeakA, .inl (D.1 7, 5, .inl nLeak)), (nPlanA, .inl (D.1 7, 16, .inl nPlan))] [(x0, .inr (5, [.ref p0, .ref n0, .ref o0, .ref t0, .ref s0, .ref im0, .ref sh0, .ref cr0, .int xLatestTorn]))] [x0, n0, nKindA, nRoomA, nChargeA, nLeakA, nPlanA] [1, 2, 3, 4, 5, 6] [0] C (c_X1_passHours D n0 nKindA nRoomA nChargeA nLeakA nPlanA v1 nCells nSigns nHour nStops nWaste nDone nBridged nKind nRoom nCharge nLeak nPlan a_1 nHour_2 nStops_3 nWaste_4 nDone_5 nCharge_6 hu) k_X1_passHours gX5_hours_X1_passHours ⟨rfl, rfl⟩ ⟨Nat.le_of_ble_eq_true rfl, Nat.le_of_ble_eq_true rfl⟩ rfl rfl rfl rfl rfl rfl (Nat.le_of_ble_eq_true rfl) rfl rfl rfl rfl (by decide) (by decide) (by decide) rfl rfl rfl dX5_hours_35 ?_
        obtain ⟨rfl, rfl, rfl, rfl, rfl, rfl⟩ := si6 hf
        exact j_iret (pc := 38) C dX5_hours_38
      · refine j_bipush (pc := 27) (-3) C (by decide) dX5_hours_27 ?_
        obtain ⟨rfl, rfl, rfl, rfl, rfl, rfl⟩ := si6 hf
        exact j_iret (pc := 29) C dX5_hours_29
    · refine j_iconst (pc := 10) (-1) C (by decide) dX5_hours_10 ?_
      obtain ⟨rfl, rfl, rfl, rfl, rfl, rfl⟩ := si6 hf
      exact j_iret (pc := 11) C dX5_hours_11
theorem k_X5_hours : CK yX5_hours wsX5_hours cX5_hours 2 (some .int) 1 := ⟨rfl, by decide +kernel⟩
theorem c_X5_hours (D : va_G) (x0 p0 n0 o0 t0 s0 im0 sh0 cr0 nKindA nRoomA nChargeA nLeakA nPlanA : Nat) (v1 : Int32) (xLatestTorn : Int32) (nCells : Int32) (nSigns : Int32) (nHour : Int32) (nStops : Int32) (nWaste : Int32) (nDone : Int32) (nBridged : Int32) (nKind : Nat → Int32) (nRoom : Nat → Int32) (nCharge : Nat → Int32) (nLeak : Nat → Int32) (nPlan : Nat → Int32) (oR : Int32) (oNHour : Int32) (oNStops : Int32) (oNWaste : Int32) (oNDone : Int32) (oNCharge : Nat → Int32) (hf : f_X5_hours v1 nCells nSigns nHour nStops nWaste nDone nBridged nKind nRoom nCharge nLeak nPlan = some (oR, oNHour, oNStops, oNWaste, oNDone, oNCharge)) : ∀ l, MW l yX5_hours wsX5_hours ({ frames := 5, cells := 0, slots := 0, locals := 115 } : Room) D [.ref x0, .int v1] [(x0, .inr (5, [.ref p0, .ref n0, .ref o0, .ref t0, .ref s0, .ref im0, .ref sh0, .ref cr0, .int xLatestTorn])), (n0, .inr (1, [.int nCells, .int nSigns, .int nHour, .int nStops, .int nWaste, .int nDone, .int nBridged, .ref nKindA, .ref nRoomA, .ref nChargeA, .ref nLeakA, .ref nPlanA])), (nKindA, .inl (D.1 7, 5, .inl nKind)), (nRoomA, .inl (D.1 7, 5, .inl nRoom)), (nChargeA, .inl (D.1 7, 5, .inl nCharge)), (nLeakA, .inl (D.1 7, 5, .inl nLeak)), (nPlanA, .inl (D.1 7, 16, .inl nPlan))] (some (.int oR)) [(x0, .inr (5, [.ref p0, .ref n0, .ref o0, .ref t0, .ref s0, .ref im0, .ref sh0, .ref cr0, .int xLatestTorn])), (n0, .inr (1, [.int nCells, .int nSigns, .int oNHour, .int oNStops, .int oNWaste, .int oNDone, .int nBridged, .ref nKindA, .ref nRoomA, .ref nChargeA, .ref nLeakA, .ref nPlanA])), (nKindA, .inl (D.1 7, 5, .inl nKind)), (nRoomA, .inl (D.1 7, 5, .inl nRoom)), (nChargeA, .inl (D.1 7, 5, .inl oNCharge)), (nLeakA, .inl (D.1 7, 5, .inl nLeak)), (nPlanA, .inl (D.1 7, 16, .inl nPlan))] := j_met (cc := cX5_hours) (nl := 2) (rt := (some .int)) (own := RX5) (lv := [(0, .ref x0), (1, .int v1)]) (by decide +kernel) rfl rfl rfl (Nat.le_of_ble_eq_true rfl) (fun G C => t_X5_hours_0 C hf)

-- X5_isFar
set_option maxHeartbeats 4000000 in
set_option maxRecDepth 100000 in
theorem t_X5_isFar_0 {G : jX} {D : va_G} {v0 : Int32} {oR : Int32} (C : KC G D cX5_isFar RX5 wsX5_isFar ({ frames := 0, cells := 0, slots := 0, locals := 0 } : Room) 1 (some .boolean) (some (.int oR)) []) (hf : f_X5_isFar v0 = some oR) : JW G D 0 [(0, .int v0)] [] [] := by
  unfold f_X5_isFar at hf
  refine j_iload_n (pc := 0) C 0 rfl dX5_isFar_0 ?_
  refine j_if_lt (pc := 1) 15 C hf (by decide) dX5_isFar_1 (fun hf => ?_) (fun hf => ?_)
  · refine j_iconst (pc := 15) 0 C (by decide) dX5_isFar_15 ?_
    obtain rfl := si1 hf
    exact j_zret (pc := 16) C (by decide) dX5_isFar_16
  · refine j_iload_n (pc := 4) C 0 rfl dX5_isFar_4 ?_
    refine j_sipush (pc := 5) 200 C (by decide) dX5_isFar_5 ?_
    refine j_icmp_gt (pc := 8) 15 C hf (by decide) dX5_isFar_8 (fun hf => ?_) (fun hf => ?_)
    · refine j_iconst (pc := 15) 0 C (by decide) dX5_isFar_15 ?_
      obtain rfl := si1 hf
      exact j_zret (pc := 16) C (by decide) dX5_isFar_16
    · refine j_iconst (pc := 11) 1 C (by decide) dX5_isFar_11 ?_
      refine j_goto (pc := 12) 16 C (by decide) dX5_isFar_12 ?_
      obtain rfl := si1 hf
      exact j_zret (pc := 16) C (by decide) dX5_isFar_16
theorem k_X5_isFar : CK yX5_isFar wsX5_isFar cX5_isFar 1 (some .boolean) 1 := ⟨rfl, by decide +kernel⟩
theorem c_X5_isFar (D : va_G) (v0 : Int32) (oR : Int32) (hf : f_X5_isFar v0 = some oR) : ∀ l, MW l yX5_isFar wsX5_isFar ({ frames := 0, cells := 0, slots := 0, locals := 0 } : Room) D [.int v0] [] (some (.int oR)) [] := j_met (cc := cX5_isFar) (nl := 1) (rt := (some .boolean)) (own := RX5) (lv := [(0, .int v0)]) (by decide +kernel) rfl rfl rfl (Nat.le_of_ble_eq_true rfl) (fun G C => t_X5_isFar_0 C hf)

-- X5_startTrial
theorem fl_X5_startTrial_26 : Cond.fieldLink RX5 26 "CellsInRow" "trial" "LCellsInRow$Row;" ∈ wsX5_startTrial := by decide +kernel
theorem iw_X5_startTrial_X5 : ∀ w ∈ wsX50, w ∈ wsX5_startTrial := by decide +kernel
theorem fl_X5_startTrial_19 : Cond.fieldLink RX5 19 "CellsInRow" "now" "LCellsInRow$Row;" ∈ wsX5_startTrial := by decide +kernel
theorem fl_X5_startTrial_93 : Cond.fieldLink RX5 93 "CellsInRow$Row" "stops" "I" ∈ wsX5_startTrial := by decide +kernel
theorem iw_X5_startTrial_X1 : ∀ w ∈ wsX10, w ∈ wsX5_startTrial := by decide +kernel
theorem fl_X5_startTrial_96 : Cond.fieldLink RX5 96 "CellsInRow$Row" "waste" "I" ∈ wsX5_startTrial := by decide +kernel
theorem fl_X5_startTrial_99 : Cond.fieldLink RX5 99 "CellsInRow$Row" "done" "I" ∈ wsX5_startTrial := by decide +kernel
theorem fl_X5_startTrial_180 : Cond.fieldLink RX5 180 "CellsInRow$Row" "bridged" "I" ∈ wsX5_startTrial := by decide +kernel
set_option maxHeartbeats 4000000 in
set_option maxRecDepth 100000 in
theorem t_X5_startTrial_0 {G : jX} {D : va_G} {x0 p0 n0 o0 t0 s0 im0 sh0 cr0 tKindA tRoomA tChargeA tLeakA tPlanA nKindA nRoomA nChargeA nLeakA nPlanA : Nat} {xLatestTorn : Int32} {tCells : Int32} {tSigns : Int32} {tHour : Int32} {tStops : Int32} {tWaste : Int32} {tDone : Int32} {tBridged : Int32} {tKind : Nat → Int32} {tRoom : Nat → Int32} {tCharge : Nat → Int32} {tLeak : Nat → Int32} {tPlan : Nat → Int32} {nCells : Int32} {nSigns : Int32} {nHour : Int32} {nStops : Int32} {nWaste : Int32} {nDone : Int32} {nBridged : Int32} {nKind : Nat → Int32} {nRoom : Nat → Int32} {nCharge : Nat → Int32} {nLeak : Nat → Int32} {nPlan : Nat → Int32} {oTCells : Int32} {oTSigns : Int32} {oTHour : Int32} {oTStops : Int32} {oTWaste : Int32} {oTDone : Int32} {oTBridged : Int32} {oTKind : Nat → Int32} {oTRoom : Nat → Int32} {oTCharge : Nat → Int32} {oTLeak : Nat → Int32} {oTPlan : Nat → Int32} (C : KC G D cX5_startTrial RX5 wsX5_startTrial ({ frames := 2, cells := 0, slots := 0, locals := 61 } : Room) 1 none none [(x0, .inr (5, [.ref p0, .ref n0, .ref o0, .ref t0, .ref s0, .ref im0, .ref sh0, .ref cr0, .int xLatestTorn])), (t0, .inr (1, [.int oTCells, .int oTSigns, .int oTHour, .int oTStops, .int oTWaste, .int oTDone, .int oTBridged, .ref tKindA, .ref tRoomA, .ref tChargeA, .ref tLeakA, .ref tPlanA])), (tKindA, .inl (D.1 7, 5, .inl oTKind)), (tRoomA, .inl (D.1 7, 5, .inl oTRoom)), (tChargeA, .inl (D.1 7, 5, .inl oTCharge)), (tLeakA, .inl (D.1 7, 5, .inl oTLeak)), (tPlanA, .inl (D.1 7, 16, .inl oTPlan)), (n0, .inr (1, [.int nCells, .int nSigns, .int nHour, .int nStops, .int nWaste, .int nDone, .int nBridged, .ref nKindA, .ref nRoomA, .ref nChargeA, .ref nLeakA, .ref nPlanA])), (nKindA, .inl (D.1 7, 5, .inl nKind)), (nRoomA, .inl (D.1 7, 5, .inl nRoom)), (nChargeA, .inl (D.1 7, 5, .inl nCharge)), (nLeakA, .inl (D.1 7, 5, .inl nLeak)), (nPlanA, .inl (D.1 7, 16, .inl nPlan))]) (hf : f_X5_startTrial tCells tSigns tHour tStops tWaste tDone tBridged tKind tRoom tCharge tLeak tPlan nCells nSigns nHour nStops nWaste nDone nKind nRoom nCharge nLeak nPlan = some (oTCells, oTSigns, oTHour, oTStops, oTWaste, oTDone, oTBridged, oTKind, oTRoom, oTCharge, oTLeak, oTPlan)) : JW G D 0 [(0, .ref x0)] [] [(x0, .inr (5, [.ref p0, .ref n0, .ref o0, .ref t0, .ref s0, .ref im0, .ref sh0, .ref cr0, .int xLatestTorn])), (t0, .inr (1, [.int tCells, .int tSigns, .int tHour, .int tStops, .int tWaste, .int tDone, .int tBridged, .ref tKindA, .ref tRoomA, .ref tChargeA, .ref tLeakA, .ref tPlanA])), (tKindA, .inl (D.1 7, 5, .inl tKind)), (tRoomA, .inl (D.1 7, 5, .inl tRoom)), (tChargeA, .inl (D.1 7, 5, .inl tCharge)), (tLeakA, .inl (D.1 7, 5, .inl tLeak)), (tPlanA, .inl (D.1 7, 16, .inl tPlan)), (n0, .inr (1, [.int nCells, .int nSigns, .int nHour, .int nStops, .int nWaste, .int nDone, .int nBridged, .ref nKindA, .ref nRoomA, .ref nChargeA, .ref nLeakA, .ref nPlanA])), (nKindA, .inl (D.1 7, 5, .inl nKind)), (nRoomA, .inl (D.1 7, 5, .inl nRoom)), (nChargeA, .inl (D.1 7, 5, .inl nCharge)), (nLeakA, .inl (D.1 7, 5, .inl nLeak)), (nPlanA, .inl (D.1 7, 16, .inl nPlan))] := by
  unfold f_X5_startTrial at hf
  refine j_aload_n (pc := 0) C 0 rfl dX5_startTrial_0 ?_
  refine j_get (pc := 1) 0 5 3 C iw_X5_startTrial_X5 rfl rfl (by decide) fl_X5_startTrial_26 rfl rfl dX5_startTrial_1 ?_
  refine j_aload_n (pc := 4) C 0 rfl dX5_startTrial_4 ?_
  refine j_get (pc := 5) 0 5 1 C iw_X5_startTrial_X5 rfl rfl (by decide) fl_X5_startTrial_19 rfl rfl dX5_startTrial_5 ?_
  obtain ⟨tCells_1, tSigns_2, tHour_3, tStops_4, tWaste_5, tDone_6, tKind_7, tRoom_8, tCharge_9, tLeak_10, tPlan_11, hu, hf⟩ := ob11_some hf
  refine j_callV (pc := 8) (N := 13) (qr := 1) (ci := 1) [.ref n0] [] [.ref n0, .ref t0] [] [(x0, .inr (5, [.ref p0, .ref n0, .ref o0, .ref t0, .ref s0, .ref im0, .ref sh0, .ref cr0, .int xLatestTorn])), (t0, .inr (1, [.int tCells_1, .int tSigns_2, .int tHour_3, .int tStops_4, .int tWaste_5, .int tDone_6, .int tBridged, .ref tKindA, .ref tRoomA, .ref tChargeA, .ref tLeakA, .ref tPlanA])), (tKindA, .inl (D.1 7, 5, .inl tKind_7)), (tRoomA, .inl (D.1 7, 5, .inl tRoom_8)), (tChargeA, .inl (D.1 7, 5, .inl tCharge_9)), (tLeakA, .inl (D.1 7, 5, .inl tLeak_10)), (tPlanA, .inl (D.1 7, 16, .inl tPlan_11)), (n0, .inr (1, [.int nCells, .int nSigns, .int nHour, .int nStops, .int nWaste, .int nDone, .int nBridged, .ref nKindA, .ref nRoomA, .ref nChargeA, .ref nLeakA, .ref nPlanA])), (nKindA, .inl (D.1 7, 5, .inl nKind)), (nRoomA, .inl (D.1 7, 5, .inl nRoom)), (nChargeA, .inl (D.1 7, 5, .inl nCharge)), (nLeakA, .inl (D.1 7, 5, .inl nLeak)), (nPlanA, .inl (D.1 7, 16, .inl nPlan))] [(x0, .inr (5, [.ref p0, .ref n0, .ref o0, .ref t0, .ref s0, .ref im0, .ref sh0, .ref cr0, .int xLatestTorn]))] [x0, t0, tKindA, tRoomA, tChargeA, tLeakA, tPlanA, n0, nKindA, nRoomA, nChargeA, nLeakA, nPlanA] [1, 2, 3, 4, 5, 6, 7, 8, 9, 10, 11, 12] [0] C (c_X1_becomes D t0 tKindA tRoomA tChargeA tLeakA tPlanA n0 nKindA nRoomA nChargeA nLeakA nPlanA tCells tSigns tHour tStops tWaste tDone tBridged tKind tRoom tCharge tLeak tPlan nCells nSigns nHour nStops nWaste nDone nBridged nKind nRoom nCharge nLeak nPlan tCells_1 tSigns_2 tHour_3 tStops_4 tWaste_5 tDone_6 tKind_7 tRoom_8 tCharge_9 tLeak_10 tPlan_11 hu) k_X1_becomes gX5_startTrial_X1_becomes ⟨rfl, rfl⟩ ⟨Nat.le_of_ble_eq_true rfl, Nat.le_of_ble_eq_true rfl⟩ rfl rfl rfl rfl rfl rfl (Nat.le_of_ble_eq_true rfl) rfl rfl rfl rfl (by decide) (by decide) (by decide) rfl rfl rfl dX5_startTrial_8 ?_
  refine j_aload_n (pc := 11) C 0 rfl dX5_startTrial_11 ?_
  refine j_get (pc := 12) 0 5 3 C iw_X5_startTrial_X5 rfl rfl (by decide) fl_X5_startTrial_26 rfl rfl dX5_startTrial_12 ?_
  refine j_iconst (pc := 15) 0 C (by decide) dX5_startTrial_15 ?_
  refine j_put (pc := 16) (ty := .int) 1 1 3 [(x0, .inr (5, [.ref p0, .ref n0, .ref o0, .ref t0, .ref s0, .ref im0, .ref sh0, .ref cr0, .int xLatestTorn])), (t0, .inr (1, [.int tCells_1, .int tSigns_2, .int tHour_3, .int 0, .int tWaste_5, .int tDone_6, .int tBridged, .ref tKindA, .ref tRoomA, .ref tChargeA, .ref tLeakA, .ref tPlanA])), (tKindA, .inl (D.1 7, 5, .inl tKind_7)), (tRoomA, .inl (D.1 7, 5, .inl tRoom_8)), (tChargeA, .inl (D.1 7, 5, .inl tCharge_9)), (tLeakA, .inl (D.1 7, 5, .inl tLeak_10)), (tPlanA, .inl (D.1 7, 16, .inl tPlan_11)), (n0, .inr (1, [.int nCells, .int nSigns, .int nHour, .int nStops, .int nWaste, .int nDone, .int nBridged, .ref nKindA, .ref nRoomA, .ref nChargeA, .ref nLeakA, .ref nPlanA])), (nKindA, .inl (D.1 7, 5, .inl nKind)), (nRoomA, .inl (D.1 7, 5, .inl nRoom)), (nChargeA, .inl (D.1 7, 5, .inl nCharge)), (nLeakA, .inl (D.1 7, 5, .inl nLeak)), (nPlanA, .inl (D.1 7, 16, .inl nPlan))] C iw_X5_startTrial_X1 tyX1 tyX1_ok nmX1 rfl rfl (by decide) fl_X5_startTrial_93 rfl rfl rfl rfl rfl (Nat.le_of_ble_eq_true rfl) rfl dX5_startTrial_16 ?_
  refine j_aload_n (pc := 19) C 0 rfl dX5_startTrial_19 ?_
  refine j_get (pc := 20) 0 5 3 C iw_X5_startTrial_X5 rfl rfl (by decide) fl_X5_startTrial_26 rfl rfl dX5_startTrial_20 ?_
  refine j_iconst (pc := 23) 0 C (by decide) dX5_startTrial_23 ?_
  refine j_put (pc := 24) (ty := .int) 1 1 4 [(x0, .inr (5, [.ref p0, .ref n0, .ref o0, .ref t0, .ref s0, .ref im0, .ref sh0, .ref cr0, .int xLatestTorn])), (t0, .inr (1, [.int tCells_1, .int tSigns_2, .int tHour_3, .int 0, .int 0, .int tDone_6, .int tBridged, .ref tKindA, .ref tRoomA, .ref tChargeA, .ref tLeakA, .ref tPlanA])), (tKindA, .inl (D.1 7, 5, .inl tKind_7)), (tRoomA, .inl (D.1 7, 5, .inl tRoom_8)), (tChargeA, .inl (D.1 7, 5, .inl tCharge_9)), (tLeakA, .inl (D.1 7, 5, .inl tLeak_10)), (tPlanA, .inl (D.1 7, 16, .inl tPlan_11)), (n0, .inr (1, [.int nCells, .int nSigns, .int nHour, .int nStops, .int nWaste, .int nDone, .int nBridged, .ref nKindA, .ref nRoomA, .ref nChargeA, .ref nLeakA, .ref nPlanA])), (nKindA, .inl (D.1 7, 5, .inl nKind)), (nRoomA, .inl (D.1 7, 5, .inl nRoom)), (nChargeA, .inl (D.1 7, 5, .inl nCharge)), (nLeakA, .inl (D.1 7, 5, .inl nLeak)), (nPlanA, .inl (D.1 7, 16, .inl nPlan))] C iw_X5_startTrial_X1 tyX1 tyX1_ok nmX1 rfl rfl (by decide) fl_X5_startTrial_96 rfl rfl rfl rfl rfl (Nat.le_of_ble_eq_true rfl) rfl dX5_startTrial_24 ?_
  refine j_aload_n (pc := 27) C 0 rfl dX5_startTrial_27 ?_
  refine j_get (pc := 28) 0 5 3 C iw_X5_startTrial_X5 rfl rfl (by decide) fl_X5_startTrial_26 rfl rfl dX5_startTrial_28 ?_
  refine j_iconst (pc := 31) 0 C (by decide) dX5_startTrial_31 ?_
  refine j_put (pc := 32) (ty := .int) 1 1 5 [(x0, .inr (5, [.ref p0, .ref n0, .ref o0, .ref t0, .ref s0, .ref im0, .ref sh0, .ref cr0, .int xLatestTorn])), (t0, .inr (1, [.int tCells_1, .int tSigns_2, .int tHour_3, .int 0, .int 0, .int 0, .int tBridged, .ref tKindA, .ref tRoomA, .ref tChargeA, .ref tLeakA, .ref tPlanA])), (tKindA, .inl (D.1 7, 5, .inl tKind_7)), (tRoomA, .inl (D.1 7, 5, .inl tRoom_8)), (tChargeA, .inl (D.1 7, 5, .inl tCharge_9)), (tLeakA, .inl (D.1 7, 5, .inl tLeak_10)), (tPlanA, .inl (D.1 7, 16, .inl tPlan_11)), (n0, .inr (1, [.int nCells, .int nSigns, .int nHour, .int nStops, .int nWaste, .int nDone, .int nBridged, .ref nKindA, .ref nRoomA, .ref nChargeA, .ref nLeakA, .ref nPlanA])), (nKindA, .inl (D.1 7, 5, .inl nKind)), (nRoomA, .inl (D.1 7, 5, .inl nRoom)), (nChargeA, .inl (D.1 7, 5, .inl nCharge)), (nLeakA, .inl (D.1 7, 5, .inl nLeak)), (nPlanA, .inl (D.1 7, 16, .inl nPlan))] C iw_X5_startTrial_X1 tyX1 tyX1_ok nmX1 rfl rfl (by decide) fl_X5_startTrial_99 rfl rfl rfl rfl rfl (Nat.le_of_ble_eq_true rfl) rfl dX5_startTrial_32 ?_
  refine j_aload_n (pc := 35) C 0 rfl dX5_startTrial_35 ?_
  refine j_get (pc := 36) 0 5 3 C iw_X5_startTrial_X5 rfl rfl (by decide) fl_X5_startTrial_26 rfl rfl dX5_startTrial_36 ?_
  refine j_bipush (pc := 39) (-4) C (by decide) dX5_startTrial_39 ?_
  refine j_put (pc := 41) (ty := .int) 1 1 6 [(x0, .inr (5, [.ref p0, .ref n0, .ref o0, .ref t0, .ref s0, .ref im0, .ref sh0, .ref cr0, .int xLatestTorn])), (t0, .inr (1, [.int tCells_1, .int tSigns_2, .int tHour_3, .int 0, .int 0, .int 0, .int (-4), .ref tKindA, .ref tRoomA, .ref tChargeA, .ref tLeakA, .ref tPlanA])), (tKindA, .inl (D.1 7, 5, .inl tKind_7)), (tRoomA, .inl (D.1 7, 5, .inl tRoom_8)), (tChargeA, .inl (D.1 7, 5, .inl tCharge_9)), (tLeakA, .inl (D.1 7, 5, .inl tLeak_10)), (tPlanA, .inl (D.1 7, 16, .inl tPlan_11)), (n0, .inr (1, [.int nCells, .int nSigns, .int nHour, .int nStops, .int nWaste, .int nDone, .int nBridged, .ref nKindA, .ref nRoomA, .ref nChargeA, .ref nLeakA, .ref nPlanA])), (nKindA, .inl (D.1 7, 5, .inl nKind)), (nRoomA, .inl (D.1 7, 5, .inl nRoom)), (nChargeA, .inl (D.1 7, 5, .inl nCharge)), (nLeakA, .inl (D.1 7, 5, .inl nLeak)), (nPlanA, .inl (D.1 7, 16, .inl nPlan))] C iw_X5_startTrial_X1 tyX1 tyX1_ok nmX1 rfl rfl (by decide) fl_X5_startTrial_180 rfl rfl rfl rfl rfl (Nat.le_of_ble_eq_true rfl) rfl dX5_startTrial_41 ?_
  obtain ⟨rfl, rfl, rfl, rfl, rfl, rfl, rfl, rfl, rfl, rfl, rfl, rfl⟩ := si12 hf
  exact j_vret (pc := 44) C dX5_startTrial_44
theorem k_X5_startTrial : CK yX5_startTrial wsX5_startTrial cX5_startTrial 1 none 0 := ⟨rfl, by decide +kernel⟩
theorem c_X5_startTrial (D : va_G) (x0 p0 n0 o0 t0 s0 im0 sh0 cr0 tKindA tRoomA tChargeA tLeakA tPlanA nKindA nRoomA nChargeA nLeakA nPlanA : Nat) (xLatestTorn : Int32) (tCells : Int32) (tSigns : Int32) (tHour : Int32) (tStops : Int32) (tWaste : Int32) (tDone : Int32) (tBridged : Int32) (tKind : Nat → Int32) (tRoom : Nat → Int32) (tCharge : Nat → Int32) (tLeak : Nat → Int32) (tPlan : Nat → Int32) (nCells : Int32) (nSigns : Int32) (nHour : Int32) (nStops : Int32) (nWaste : Int32) (nDone : Int32) (nBridged : Int32) (nKind : Nat → Int32) (nRoom : Nat → Int32) (nCharge : Nat → Int32) (nLeak : Nat → Int32) (nPlan : Nat → Int32) (oTCells : Int32) (oTSigns : Int32) (oTHour : Int32) (oTStops : Int32) (oTWaste : Int32) (oTDone : Int32) (oTBridged : Int32) (oTKind : Nat → Int32) (oTRoom : Nat → Int32) (oTCharge : Nat → Int32) (oTLeak : Nat → Int32) (oTPlan : Nat → Int32) (hf : f_X5_startTrial tCells tSigns tHour tStops tWaste tDone tBridged tKind tRoom tCharge tLeak tPlan nCells nSigns nHour nStops nWaste nDone nKind nRoom nCharge nLeak nPlan = some (oTCells, oTSigns, oTHour, oTStops, oTWaste, oTDone, oTBridged, oTKind, oTRoom, oTCharge, oTLeak, oTPlan)) : ∀ l, MW l yX5_startTrial wsX5_startTrial ({ frames := 2, cells := 0, slots := 0, locals := 61 } : Room) D [.ref x0] [(x0, .inr (5, [.ref p0, .ref n0, .ref o0, .ref t0, .ref s0, .ref im0, .ref sh0, .ref cr0, .int xLatestTorn])), (t0, .inr (1, [.int tCells, .int tSigns, .int tHour, .int tStops, .int tWaste, .int tDone, .int tBridged, .ref tKindA, .ref tRoomA, .ref tChargeA, .ref tLeakA, .ref tPlanA])), (tKindA, .inl (D.1 7, 5, .inl tKind)), (tRoomA, .inl (D.1 7, 5, .inl tRoom)), (tChargeA, .inl (D.1 7, 5, .inl tCharge)), (tLeakA, .inl (D.1 7, 5, .inl tLeak)), (tPlanA, .inl (D.1 7, 16, .inl tPlan)), (n0, .inr (1, [.int nCells, .int nSigns, .int nHour, .int nStops, .int nWaste, .int nDone, .int nBridged, .ref nKindA, .ref nRoomA, .ref nChargeA, .ref nLeakA, .ref nPlanA])), (nKindA, .inl (D.1 7, 5, .inl nKind)), (nRoomA, .inl (D.1 7, 5, .inl nRoom)), (nChargeA, .inl (D.1 7, 5, .inl nCharge)), (nLeakA, .inl (D.1 7, 5, .inl nLeak)), (nPlanA, .inl (D.1 7, 16, .inl nPlan))] none [(x0, .inr (5, [.ref p0, .ref n0, .ref o0, .ref t0, .ref s0, .ref im0, .ref sh0, .ref cr0, .int xLatestTorn])), (t0, .inr (1, [.int oTCells, .int oTSigns, .int oTHour, .int oTStops, .int oTWaste, .int oTDone, .int oTBridged, .ref tKindA, .ref tRoomA, .ref tChargeA, .ref tLeakA, .ref tPlanA])), (tKindA, .inl (D.1 7, 5, .inl oTKind)), (tRoomA, .inl (D.1 7, 5, .inl oTRoom)), (tChargeA, .inl (D.1 7, 5, .inl oTCharge)), (tLeakA, .inl (D.1 7, 5, .inl oTLeak)), (tPlanA, .inl (D.1 7, 16, .inl oTPlan)), (n0, .inr (1, [.int nCells, .int nSigns, .int nHour, .int nStops, .int nWaste, .int nDone, .int nBridged, .ref nKindA, .ref nRoomA, .ref nChargeA, .ref nLeakA, .ref nPlanA])), (nKindA, .inl (D.1 7, 5, .inl nKind)), (nRoomA, .inl (D.1 7, 5, .inl nRoom)), (nChargeA, .inl (D.1 7, 5, .inl nCharge)), (nLeakA, .inl (D.1 7, 5, .inl nLeak)), (nPlanA, .inl (D.1 7, 16, .inl nPlan))] := j_met (cc := cX5_startTrial) (nl := 1) (rt := none) (own := RX5) (lv := [(0, .ref x0)]) (by decide +kernel) rfl rfl rfl (Nat.le_of_ble_eq_true rfl) (fun G C => t_X5_startTrial_0 C hf)

