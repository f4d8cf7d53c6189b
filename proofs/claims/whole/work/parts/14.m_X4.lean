-- X4_refused
theorem fl_X4_refused_28 : Cond.fieldLink RX4 28 "CellsInRow$Tape" "latestFault" "I" ∈ wsX4_refused := by decide +kernel
theorem iw_X4_refused_X4 : ∀ w ∈ wsX40, w ∈ wsX4_refused := by decide +kernel
set_option maxHeartbeats 4000000 in
set_option maxRecDepth 100000 in
theorem t_X4_refused_0 {G : jX} {D : va_G} {p0 pBytesA : Nat} {v1 : Int32} {pLength : Int32} {pLatestFault : Int32} {pPlace : Int32} {pToken : Int32} {pFrom : Int32} {pNumber : Int32} {pPlanned : Int32} {pBytes : Nat → Int32} {oR : Int32} {oPLatestFault : Int32} (C : KC G D cX4_refused RX4 wsX4_refused ({ frames := 0, cells := 0, slots := 0, locals := 0 } : Room) 2 (some .boolean) (some (.int oR)) [(p0, .inr (4, [.int pLength, .int oPLatestFault, .ref pBytesA, .int pPlace, .int pToken, .int pFrom, .int pNumber, .int pPlanned])), (pBytesA, .inl (D.1 7, 160, .inl pBytes))]) (hf : f_X4_refused v1 pLatestFault = some (oR, oPLatestFault)) : JW G D 0 [(0, .ref p0), (1, .int v1)] [] [(p0, .inr (4, [.int pLength, .int pLatestFault, .ref pBytesA, .int pPlace, .int pToken, .int pFrom, .int pNumber, .int pPlanned])), (pBytesA, .inl (D.1 7, 160, .inl pBytes))] := by
  unfold f_X4_refused at hf
  refine j_aload_n (pc := 0) C 0 rfl dX4_refused_0 ?_
  refine j_iload_n (pc := 1) C 1 rfl dX4_refused_1 ?_
  refine j_put (pc := 2) (ty := .int) 0 4 1 [(p0, .inr (4, [.int pLength, .int v1, .ref pBytesA, .int pPlace, .int pToken, .int pFrom, .int pNumber, .int pPlanned])), (pBytesA, .inl (D.1 7, 160, .inl pBytes))] C iw_X4_refused_X4 tyX4 tyX4_ok nmX4 rfl rfl (by decide) fl_X4_refused_28 rfl rfl rfl rfl rfl (Nat.le_of_ble_eq_true rfl) rfl dX4_refused_2 ?_
  refine j_iconst (pc := 5) 0 C (by decide) dX4_refused_5 ?_
  obtain ⟨rfl, rfl⟩ := si2 hf
  exact j_zret (pc := 6) C (by decide) dX4_refused_6
theorem k_X4_refused : CK yX4_refused wsX4_refused cX4_refused 2 (some .boolean) 1 := ⟨rfl, by decide +kernel⟩
theorem c_X4_refused (D : va_G) (p0 pBytesA : Nat) (v1 : Int32) (pLength : Int32) (pLatestFault : Int32) (pPlace : Int32) (pToken : Int32) (pFrom : Int32) (pNumber : Int32) (pPlanned : Int32) (pBytes : Nat → Int32) (oR : Int32) (oPLatestFault : Int32) (hf : f_X4_refused v1 pLatestFault = some (oR, oPLatestFault)) : ∀ l, MW l yX4_refused wsX4_refused ({ frames := 0, cells := 0, slots := 0, locals := 0 } : Room) D [.ref p0, .int v1] [(p0, .inr (4, [.int pLength, .int pLatestFault, .ref pBytesA, .int pPlace, .int pToken, .int pFrom, .int pNumber, .int pPlanned])), (pBytesA, .inl (D.1 7, 160, .inl pBytes))] (some (.int oR)) [(p0, .inr (4, [.int pLength, .int oPLatestFault, .ref pBytesA, .int pPlace, .int pToken, .int pFrom, .int pNumber, .int pPlanned])), (pBytesA, .inl (D.1 7, 160, .inl pBytes))] := j_met (cc := cX4_refused) (nl := 2) (rt := (some .boolean)) (own := RX4) (lv := [(0, .ref p0), (1, .int v1)]) (by decide +kernel) rfl rfl rfl (Nat.le_of_ble_eq_true rfl) (fun G C => t_X4_refused_0 C hf)

-- X4_passAll
theorem fl_X4_passAll_20 : Cond.fieldLink RX4 20 "CellsInRow$Tape" "place" "I" ∈ wsX4_passAll := by decide +kernel
theorem iw_X4_passAll_X4 : ∀ w ∈ wsX40, w ∈ wsX4_passAll := by decide +kernel
theorem fl_X4_passAll_108 : Cond.fieldLink RX4 108 "CellsInRow$Tape" "length" "I" ∈ wsX4_passAll := by decide +kernel
theorem fl_X4_passAll_9 : Cond.fieldLink RX4 9 "CellsInRow$Tape" "bytes" "[I" ∈ wsX4_passAll := by decide +kernel
set_option maxHeartbeats 4000000 in
set_option maxRecDepth 100000 in
theorem t_X4_passAll_0 {G : jX} {D : va_G} {p0 pBytesA : Nat} {v1 : Int32} {v2 : Int32} {pLength : Int32} {pLatestFault : Int32} {pToken : Int32} {pFrom : Int32} {pNumber : Int32} {pPlanned : Int32} {pBytes : Nat → Int32} {oPPlace : Int32} (C : KC G D cX4_passAll RX4 wsX4_passAll ({ frames := 0, cells := 0, slots := 0, locals := 0 } : Room) 3 none none [(p0, .inr (4, [.int pLength, .int pLatestFault, .ref pBytesA, .int oPPlace, .int pToken, .int pFrom, .int pNumber, .int pPlanned])), (pBytesA, .inl (D.1 7, 160, .inl pBytes))]) : ∀ (n : Nat) (pPlace : Int32), f_X4_passAll_0 v1 v2 pLength pBytes n pPlace = some oPPlace → JW G D 0 [(0, .ref p0), (1, .int v1), (2, .int v2)] [] [(p0, .inr (4, [.int pLength, .int pLatestFault, .ref pBytesA, .int pPlace, .int pToken, .int pFrom, .int pNumber, .int pPlanned])), (pBytesA, .inl (D.1 7, 160, .inl pBytes))] := by
  intro n
  induction n with
  | zero => intro _ hf; rw [f_X4_passAll_0] at hf; cases hf
  | succ n ih =>
    intro pPlace hf
    rw [f_X4_passAll_0] at hf
    refine j_aload_n (pc := 0) C 0 rfl dX4_passAll_0 ?_
    refine j_get (pc := 1) 0 4 3 C iw_X4_passAll_X4 rfl rfl (by decide) fl_X4_passAll_20 rfl rfl dX4_passAll_1 ?_
    refine j_aload_n (pc := 4) C 0 rfl dX4_passAll_4 ?_
    refine j_get (pc := 5) 0 4 0 C iw_X4_passAll_X4 rfl rfl (by decide) fl_X4_passAll_108 rfl rfl dX4_passAll_5 ?_
    refine j_icmp_ge (pc := 8) 50 C hf (by decide) dX4_passAll_8 (fun hf => ?_) (fun hf => ?_)
    · obtain rfl := si1 hf
      exact j_vret (pc := 50) C dX4_passAll_50
    · refine j_aload_n (pc := 11) C 0 rfl dX4_passAll_11 ?_
      refine j_get (pc := 12) 0 4 2 C iw_X4_passAll_X4 rfl rfl (by decide) fl_X4_passAll_9 rfl rfl dX4_passAll_12 ?_
      refine j_aload_n (pc := 15) C 0 rfl dX4_passAll_15 ?_
      refine j_get (pc := 16) 0 4 3 C iw_X4_passAll_X4 rfl rfl (by decide) fl_X4_passAll_20 rfl rfl dX4_passAll_16 ?_
      refine j_iald (pc := 19) 1 C rfl hf dX4_passAll_19 (fun hf => ?_)
      refine j_iload_n (pc := 20) C 1 rfl dX4_passAll_20 ?_
      refine j_icmp_lt (pc := 21) 50 C hf (by decide) dX4_passAll_21 (fun hf => ?_) (fun hf => ?_)
      · obtain rfl := si1 hf
        exact j_vret (pc := 50) C dX4_passAll_50
      · refine j_aload_n (pc := 24) C 0 rfl dX4_passAll_24 ?_
        refine j_get (pc := 25) 0 4 2 C iw_X4_passAll_X4 rfl rfl (by decide) fl_X4_passAll_9 rfl rfl dX4_passAll_25 ?_
        refine j_aload_n (pc := 28) C 0 rfl dX4_passAll_28 ?_
        refine j_get (pc := 29) 0 4 3 C iw_X4_passAll_X4 rfl rfl (by decide) fl_X4_passAll_20 rfl rfl dX4_passAll_29 ?_
        refine j_iald (pc := 32) 1 C rfl hf dX4_passAll_32 (fun hf => ?_)
        refine j_iload_n (pc := 33) C 2 rfl dX4_passAll_33 ?_
        refine j_icmp_gt (pc := 34) 50 C hf (by decide) dX4_passAll_34 (fun hf => ?_) (fun hf => ?_)
        · obtain rfl := si1 hf
          exact j_vret (pc := 50) C dX4_passAll_50
        · refine j_aload_n (pc := 37) C 0 rfl dX4_passAll_37 ?_
          refine j_dup (pc := 38) C rfl dX4_passAll_38 ?_
          refine j_get (pc := 39) 0 4 3 C iw_X4_passAll_X4 rfl rfl (by decide) fl_X4_passAll_20 rfl rfl dX4_passAll_39 ?_
          refine j_iconst (pc := 42) 1 C (by decide) dX4_passAll_42 ?_
          refine j_iadd (pc := 43) C dX4_passAll_43 ?_
          refine j_put (pc := 44) (ty := .int) 0 4 3 [(p0, .inr (4, [.int pLength, .int pLatestFault, .ref pBytesA, .int (pPlace + 1), .int pToken, .int pFrom, .int pNumber, .int pPlanned])), (pBytesA, .inl (D.1 7, 160, .inl pBytes))] C iw_X4_passAll_X4 tyX4 tyX4_ok nmX4 rfl rfl (by decide) fl_X4_passAll_20 rfl rfl rfl rfl rfl (Nat.le_of_ble_eq_true rfl) rfl dX4_passAll_44 ?_
          refine j_goto (pc := 47) 0 C (by decide) dX4_passAll_47 ?_
          exact ih _ hf
theorem k_X4_passAll : CK yX4_passAll wsX4_passAll cX4_passAll 3 none 2 := ⟨rfl, by decide +kernel⟩
theorem c_X4_passAll (D : va_G) (p0 pBytesA : Nat) (v1 : Int32) (v2 : Int32) (pLength : Int32) (pLatestFault : Int32) (pPlace : Int32) (pToken : Int32) (pFrom : Int32) (pNumber : Int32) (pPlanned : Int32) (pBytes : Nat → Int32) (oPPlace : Int32) (hf : f_X4_passAll v1 v2 pLength pPlace pBytes = some oPPlace) : ∀ l, MW l yX4_passAll wsX4_passAll ({ frames := 0, cells := 0, slots := 0, locals := 0 } : Room) D [.ref p0, .int v1, .int v2] [(p0, .inr (4, [.int pLength, .int pLatestFault, .ref pBytesA, .int pPlace, .int pToken, .int pFrom, .int pNumber, .int pPlanned])), (pBytesA, .inl (D.1 7, 160, .inl pBytes))] none [(p0, .inr (4, [.int pLength, .int pLatestFault, .ref pBytesA, .int oPPlace, .int pToken, .int pFrom, .int pNumber, .int pPlanned])), (pBytesA, .inl (D.1 7, 160, .inl pBytes))] := j_met (cc := cX4_passAll) (nl := 3) (rt := none) (own := RX4) (lv := [(0, .ref p0), (1, .int v1), (2, .int v2)]) (by decide +kernel) rfl rfl rfl (Nat.le_of_ble_eq_true rfl) (fun G C => t_X4_passAll_0 C 1000 _ hf)

-- X4_numberPassed
theorem fl_X4_numberPassed_41 : Cond.fieldLink RX4 41 "CellsInRow$Tape" "from" "I" ∈ wsX4_numberPassed := by decide +kernel
theorem iw_X4_numberPassed_X4 : ∀ w ∈ wsX40, w ∈ wsX4_numberPassed := by decide +kernel
theorem fl_X4_numberPassed_20 : Cond.fieldLink RX4 20 "CellsInRow$Tape" "place" "I" ∈ wsX4_numberPassed := by decide +kernel
theorem fl_X4_numberPassed_9 : Cond.fieldLink RX4 9 "CellsInRow$Tape" "bytes" "[I" ∈ wsX4_numberPassed := by decide +kernel
set_option maxHeartbeats 4000000 in
set_option maxRecDepth 100000 in
theorem t_X4_numberPassed_7 {G : jX} {D : va_G} {p0 pBytesA : Nat} {pLength : Int32} {pLatestFault : Int32} {pPlace : Int32} {pToken : Int32} {pFrom : Int32} {pNumber : Int32} {pPlanned : Int32} {pBytes : Nat → Int32} {oR : Int32} (C : KC G D cX4_numberPassed RX4 wsX4_numberPassed ({ frames := 0, cells := 0, slots := 0, locals := 0 } : Room) 3 (some .int) (some (.int oR)) [(p0, .inr (4, [.int pLength, .int pLatestFault, .ref pBytesA, .int pPlace, .int pToken, .int pFrom, .int pNumber, .int pPlanned])), (pBytesA, .inl (D.1 7, 160, .inl pBytes))]) : ∀ (n : Nat) (v1 : Int32) (v2 : Int32), f_X4_numberPassed_7 pPlace pFrom pBytes n v1 v2 = some oR → JW G D 7 [(0, .ref p0), (1, .int v1), (2, .int v2)] [] [(p0, .inr (4, [.int pLength, .int pLatestFault, .ref pBytesA, .int pPlace, .int pToken, .int pFrom, .int pNumber, .int pPlanned])), (pBytesA, .inl (D.1 7, 160, .inl pBytes))] := by
  intro n
  induction n with
  | zero => intro _ _ hf; rw [f_X4_numberPassed_7] at hf; cases hf
  | succ n ih =>
    intro v1 v2 hf
    rw [f_X4_numberPassed_7] at hf
    refine j_iload_n (pc := 7) C 2 rfl dX4_numberPassed_7 ?_
    refine j_aload_n (pc := 8) C 0 rfl dX4_numberPassed_8 ?_
    refine j_get (pc := 9) 0 4 3 C iw_X4_numberPassed_X4 rfl rfl (by decide) fl_X4_numberPassed_20 rfl rfl dX4_numberPassed_9 ?_
    refine j_icmp_ge (pc := 12) 36 C hf (by decide) dX4_numberPassed_12 (fun hf => ?_) (fun hf => ?_)
    · refine j_iload_n (pc := 36) C 1 rfl dX4_numberPassed_36 ?_
      obtain rfl := si1 hf
      exact j_iret (pc := 37) C dX4_numberPassed_37
    · refine j_iload_n (pc := 15) C 1 rfl dX4_numberPassed_15 ?_
      refine j_bipush (pc := 16) 10 C (by decide) dX4_numberPassed_16 ?_
      refine j_imul (pc := 18) C dX4_numberPassed_18 ?_
      refine j_aload_n (pc := 19) C 0 rfl dX4_numberPassed_19 ?_
      refine j_get (pc := 20) 0 4 2 C iw_X4_numberPassed_X4 rfl rfl (by decide) fl_X4_numberPassed_9 rfl rfl dX4_numberPassed_20 ?_
      refine j_iload_n (pc := 23) C 2 rfl dX4_numberPassed_23 ?_
      refine j_iald (pc := 24) 1 C rfl hf dX4_numberPassed_24 (fun hf => ?_)
      refine j_iadd (pc := 25) C dX4_numberPassed_25 ?_
      refine j_bipush (pc := 26) 48 C (by decide) dX4_numberPassed_26 ?_
      refine j_isub (pc := 28) C dX4_numberPassed_28 ?_
      refine j_bdi hf (fun y_1 hf => ?_)
      refine j_istore_n (pc := 29) 1 [(0, .ref p0), (1, .int y_1), (2, .int v2)] [1, 0, 2] C rfl (by decide) rfl dX4_numberPassed_29 ?_
      refine j_iinc (pc := 30) (v2 + 1) 2 2 [(0, .ref p0), (1, .int y_1), (2, .int (v2 + 1))] [1, 2, 0] C rfl (by rfl) (by decide) rfl dX4_numberPassed_30 ?_
      refine j_goto (pc := 33) 7 C (by decide) dX4_numberPassed_33 ?_
      exact ih _ _ hf
set_option maxHeartbeats 4000000 in
set_option maxRecDepth 100000 in
theorem t_X4_numberPassed_0 {G : jX} {D : va_G} {p0 pBytesA : Nat} {pLength : Int32} {pLatestFault : Int32} {pPlace : Int32} {pToken : Int32} {pFrom : Int32} {pNumber : Int32} {pPlanned : Int32} {pBytes : Nat → Int32} {oR : Int32} (C : KC G D cX4_numberPassed RX4 wsX4_numberPassed ({ frames := 0, cells := 0, slots := 0, locals := 0 } : Room) 3 (some .int) (some (.int oR)) [(p0, .inr (4, [.int pLength, .int pLatestFault, .ref pBytesA, .int pPlace, .int pToken, .int pFrom, .int pNumber, .int pPlanned])), (pBytesA, .inl (D.1 7, 160, .inl pBytes))]) (hf : f_X4_numberPassed pPlace pFrom pBytes = some oR) : JW G D 0 [(0, .ref p0)] [] [(p0, .inr (4, [.int pLength, .int pLatestFault, .ref pBytesA, .int pPlace, .int pToken, .int pFrom, .int pNumber, .int pPlanned])), (pBytesA, .inl (D.1 7, 160, .inl pBytes))] := by
  unfold f_X4_numberPassed at hf
  refine j_iconst (pc := 0) 0 C (by decide) dX4_numberPassed_0 ?_
  refine j_istore_n (pc := 1) 1 [(0, .ref p0), (1, .int 0)] [1, 0] C rfl (by decide) rfl dX4_numberPassed_1 ?_
  refine j_aload_n (pc := 2) C 0 rfl dX4_numberPassed_2 ?_
  refine j_get (pc := 3) 0 4 5 C iw_X4_numberPassed_X4 rfl rfl (by decide) fl_X4_numberPassed_41 rfl rfl dX4_numberPassed_3 ?_
  refine j_istore_n (pc := 6) 2 [(0, .ref p0), (1, .int 0), (2, .int pFrom)] [1, 2, 0] C rfl (by decide) rfl dX4_numberPassed_6 ?_
  exact t_X4_numberPassed_7 C 1000 _ _ hf
theorem k_X4_numberPassed : CK yX4_numberPassed wsX4_numberPassed cX4_numberPassed 3 (some .int) 0 := ⟨rfl, by decide +kernel⟩
theorem c_X4_numberPassed (D : va_G) (p0 pBytesA : Nat) (pLength : Int32) (pLatestFault : Int32) (pPlace : Int32) (pToken : Int32) (pFrom : Int32) (pNumber : Int32) (pPlanned : Int32) (pBytes : Nat → Int32) (oR : Int32) (hf : f_X4_numberPassed pPlace pFrom pBytes = some oR) : ∀ l, MW l yX4_numberPassed wsX4_numberPassed ({ frames := 0, cells := 0, slots := 0, locals := 0 } : Room) D [.ref p0] [(p0, .inr (4, [.int pLength, .int pLatestFault, .ref pBytesA, .int pPlace, .int pToken, .int pFrom, .int pNumber, .int pPlanned])), (pBytesA, .inl (D.1 7, 160, .inl pBytes))] (some (.int oR)) [(p0, .inr (4, [.int pLength, .int pLatestFault, .ref pBytesA, .int pPlace, .int pToken, .int pFrom, .int pNumber, .int pPlanned])), (pBytesA, .inl (D.1 7, 160, .inl pBytes))] := j_met (cc := cX4_numberPassed) (nl := 3) (rt := (some .int)) (own := RX4) (lv := [(0, .ref p0)]) (by decide +kernel) rfl rfl rfl (Nat.le_of_ble_eq_true rfl) (fun G C => t_X4_numberPassed_0 C hf)

-- X4_toNextToken
theorem fl_X4_toNextToken_20 : Cond.fieldLink RX4 20 "CellsInRow$Tape" "place" "I" ∈ wsX4_toNextToken := by decide +kernel
theorem iw_X4_toNextToken_X4 : ∀ w ∈ wsX40, w ∈ wsX4_toNextToken := by decide +kernel
theorem fl_X4_toNextToken_41 : Cond.fieldLink RX4 41 "CellsInRow$Tape" "from" "I" ∈ wsX4_toNextToken := by decide +kernel
theorem fl_X4_toNextToken_108 : Cond.fieldLink RX4 108 "CellsInRow$Tape" "length" "I" ∈ wsX4_toNextToken := by decide +kernel
theorem fl_X4_toNextToken_34 : Cond.fieldLink RX4 34 "CellsInRow$Tape" "token" "I" ∈ wsX4_toNextToken := by decide +kernel
theorem fl_X4_toNextToken_76 : Cond.fieldLink RX4 76 "CellsInRow$Tape" "number" "I" ∈ wsX4_toNextToken := by decide +kernel
theorem fl_X4_toNextToken_9 : Cond.fieldLink RX4 9 "CellsInRow$Tape" "bytes" "[I" ∈ wsX4_toNextToken := by decide +kernel
set_option maxHeartbeats 4000000 in
set_option maxRecDepth 100000 in
theorem t_X4_toNextToken_137 {G : jX} {D : va_G} {p0 pBytesA : Nat} {v1 : Int32} {pLength : Int32} {pLatestFault : Int32} {pPlace : Int32} {pToken : Int32} {pFrom : Int32} {pNumber : Int32} {pPlanned : Int32} {pBytes : Nat → Int32} {oPPlace : Int32} {oPToken : Int32} {oPFrom : Int32} {oPNumber : Int32} (C : KC G D cX4_toNextToken RX4 wsX4_toNextToken ({ frames := 1, cells := 0, slots := 0, locals := 22 } : Room) 2 none none [(p0, .inr (4, [.int pLength, .int pLatestFault, .ref pBytesA, .int oPPlace, .int oPToken, .int oPFrom, .int oPNumber, .int pPlanned])), (pBytesA, .inl (D.1 7, 160, .inl pBytes))]) (hf : f_X4_toNextToken_137 v1 pLength pPlace pToken pFrom pNumber pBytes = some (oPPlace, oPToken, oPFrom, oPNumber)) : JW G D 137 [(0, .ref p0), (1, .int v1)] [] [(p0, .inr (4, [.int pLength, .int pLatestFault, .ref pBytesA, .int pPlace, .int pToken, .int pFrom, .int pNumber, .int pPlanned])), (pBytesA, .inl (D.1 7, 160, .inl pBytes))] := by
  unfold f_X4_toNextToken_137 at hf
  refine j_aload_n (pc := 137) C 0 rfl dX4_toNextToken_137 ?_
  refine j_iload_n (pc := 138) C 1 rfl dX4_toNextToken_138 ?_
  refine j_bipush (pc := 139) 59 C (by decide) dX4_toNextToken_139 ?_
  refine j_icmp_ne (pc := 141) 148 C hf (by decide) dX4_toNextToken_141 (fun hf => ?_) (fun hf => ?_)
  · refine j_iconst (pc := 148) 4 C (by decide) dX4_toNextToken_148 ?_
    refine j_put (pc := 149) (ty := .int) 0 4 4 [(p0, .inr (4, [.int pLength, .int pLatestFault, .ref pBytesA, .int pPlace, .int 4, .int pFrom, .int pNumber, .int pPlanned])), (pBytesA, .inl (D.1 7, 160, .inl pBytes))] C iw_X4_toNextToken_X4 tyX4 tyX4_ok nmX4 rfl rfl (by decide) fl_X4_toNextToken_34 rfl rfl rfl rfl rfl (Nat.le_of_ble_eq_true rfl) rfl dX4_toNextToken_149 ?_
    refine j_aload_n (pc := 152) C 0 rfl dX4_toNextToken_152 ?_
    refine j_dup (pc := 153) C rfl dX4_toNextToken_153 ?_
    refine j_get (pc := 154) 0 4 3 C iw_X4_toNextToken_X4 rfl rfl (by decide) fl_X4_toNextToken_20 rfl rfl dX4_toNextToken_154 ?_
    refine j_iconst (pc := 157) 1 C (by decide) dX4_toNextToken_157 ?_
    refine j_iadd (pc := 158) C dX4_toNextToken_158 ?_
    refine j_put (pc := 159) (ty := .int) 0 4 3 [(p0, .inr (4, [.int pLength, .int pLatestFault, .ref pBytesA, .int (pPlace + 1), .int 4, .int pFrom, .int pNumber, .int pPlanned])), (pBytesA, .inl (D.1 7, 160, .inl pBytes))] C iw_X4_toNextToken_X4 tyX4 tyX4_ok nmX4 rfl rfl (by decide) fl_X4_toNextToken_20 rfl rfl rfl rfl rfl (Nat.le_of_ble_eq_true rfl) rfl dX4_toNextToken_159 ?_
    obtain ⟨rfl, rfl, rfl, rfl⟩ := si4 hf
    exact j_vret (pc := 162) C dX4_toNextToken_162
  · refine j_iconst (pc := 144) 3 C (by decide) dX4_toNextToken_144 ?_
    refine j_goto (pc := 145) 149 C (by decide) dX4_toNextToken_145 ?_
    refine j_put (pc := 149) (ty := .int) 0 4 4 [(p0, .inr (4, [.int pLength, .int pLatestFault, .ref pBytesA, .int pPlace, .int 3, .int pFrom, .int pNumber, .int pPlanned])), (pBytesA, .inl (D.1 7, 160, .inl pBytes))] C iw_X4_toNextToken_X4 tyX4 tyX4_ok nmX4 rfl rfl (by decide) fl_X4_toNextToken_34 rfl rfl rfl rfl rfl (Nat.le_of_ble_eq_true rfl) rfl dX4_toNextToken_149 ?_
    refine j_aload_n (pc := 152) C 0 rfl dX4_toNextToken_152 ?_
    refine j_dup (pc := 153) C rfl dX4_toNextToken_153 ?_
    refine j_get (pc := 154) 0 4 3 C iw_X4_toNextToken_X4 rfl rfl (by decide) fl_X4_toNextToken_20 rfl rfl dX4_toNextToken_154 ?_
    refine j_iconst (pc := 157) 1 C (by decide) dX4_toNextToken_157 ?_
    refine j_iadd (pc := 158) C dX4_toNextToken_158 ?_
    refine j_put (pc := 159) (ty := .int) 0 4 3 [(p0, .inr (4, [.int pLength, .int pLatestFault, .ref pBytesA, .int (pPlace + 1), .int 3, .int pFrom, .int pNumber, .int pPlanned])), (pBytesA, .inl (D.1 7, 160, .inl pBytes))] C iw_X4_toNextToken_X4 tyX4 tyX4_ok nmX4 rfl rfl (by decide) fl_X4_toNextToken_20 rfl rfl rfl rfl rfl (Nat.le_of_ble_eq_true rfl) rfl dX4_toNextToken_159 ?_
    obtain ⟨rfl, rfl, rfl, rfl⟩ := si4 hf
    exact j_vret (pc := 162) C dX4_toNextToken_162
set_option maxHeartbeats 4000000 in
set_option maxRecDepth 100000 in
theorem t_X4_toNextToken_123 {G : jX} {D : va_G} {p0 pBytesA : Nat} {u1 : Int32} {pLength : Int32} {pLatestFault : Int32} {pPlace : Int32} {pToken : Int32} {pFrom : Int32} {pNumber : Int32} {pPlanned : Int32} {pBytes : Nat → Int32} {oPPlace : Int32} {oPToken : Int32} {oPFrom : Int32} {oPNumber : Int32} (C : KC G D cX4_toNextToken RX4 wsX4_toNextToken ({ frames := 1, cells := 0, slots := 0, locals := 22 } : Room) 2 none none [(p0, .inr (4, [.int pLength, .int pLatestFault, .ref pBytesA, .int oPPlace, .int oPToken, .int oPFrom, .int oPNumber, .int pPlanned])), (pBytesA, .inl (D.1 7, 160, .inl pBytes))]) (hf : f_X4_toNextToken_123 u1 pLength pPlace pToken pFrom pNumber pBytes = some (oPPlace, oPToken, oPFrom, oPNumber)) : JW G D 123 [(0, .ref p0)] [.int u1, .ref p0] [(p0, .inr (4, [.int pLength, .int pLatestFault, .ref pBytesA, .int pPlace, .int pToken, .int pFrom, .int pNumber, .int pPlanned])), (pBytesA, .inl (D.1 7, 160, .inl pBytes))] := by
  unfold f_X4_toNextToken_123 at hf
  refine j_put (pc := 123) (ty := .int) 0 4 4 [(p0, .inr (4, [.int pLength, .int pLatestFault, .ref pBytesA, .int pPlace, .int u1, .int pFrom, .int pNumber, .int pPlanned])), (pBytesA, .inl (D.1 7, 160, .inl pBytes))] C iw_X4_toNextToken_X4 tyX4 tyX4_ok nmX4 rfl rfl (by decide) fl_X4_toNextToken_34 rfl rfl rfl rfl rfl (Nat.le_of_ble_eq_true rfl) rfl dX4_toNextToken_123 ?_
  refine j_aload_n (pc := 126) C 0 rfl dX4_toNextToken_126 ?_
  refine j_aload_n (pc := 127) C 0 rfl dX4_toNextToken_127 ?_
  obtain ⟨a_3, hu, hf⟩ := ob1_some hf
  refine j_callV (pc := 128) (N := 2) (qr := 0) (ci := 4) [] [.ref p0] [.ref p0, .ref p0] [.int a_3, .ref p0] [(p0, .inr (4, [.int pLength, .int pLatestFault, .ref pBytesA, .int pPlace, .int u1, .int pFrom, .int pNumber, .int pPlanned])), (pBytesA, .inl (D.1 7, 160, .inl pBytes))] [] [p0, pBytesA] [0, 1] [] C (c_X4_numberPassed D p0 pBytesA pLength pLatestFault pPlace u1 pFrom pNumber pPlanned pBytes a_3 hu) k_X4_numberPassed gX4_toNextToken_X4_numberPassed ⟨rfl, rfl⟩ ⟨Nat.le_of_ble_eq_true rfl, Nat.le_of_ble_eq_true rfl⟩ rfl rfl rfl rfl rfl rfl (Nat.le_of_ble_eq_true rfl) rfl rfl rfl rfl (by decide) (by decide) (by decide) rfl rfl rfl dX4_toNextToken_128 ?_
  refine j_put (pc := 131) (ty := .int) 0 4 6 [(p0, .inr (4, [.int pLength, .int pLatestFault, .ref pBytesA, .int pPlace, .int u1, .int pFrom, .int a_3, .int pPlanned])), (pBytesA, .inl (D.1 7, 160, .inl pBytes))] C iw_X4_toNextToken_X4 tyX4 tyX4_ok nmX4 rfl rfl (by decide) fl_X4_toNextToken_76 rfl rfl rfl rfl rfl (Nat.le_of_ble_eq_true rfl) rfl dX4_toNextToken_131 ?_
  refine j_goto (pc := 134) 162 C (by decide) dX4_toNextToken_134 ?_
  obtain ⟨rfl, rfl, rfl, rfl⟩ := si4 hf
  exact j_vret (pc := 162) C dX4_toNextToken_162
set_option maxHeartbeats 4000000 in
set_option maxRecDepth 100000 in
theorem t_X4_toNextToken_84 {G : jX} {D : va_G} {p0 pBytesA : Nat} {v1 : Int32} {pLength : Int32} {pLatestFault : Int32} {pPlace : Int32} {pToken : Int32} {pFrom : Int32} {pNumber : Int32} {pPlanned : Int32} {pBytes : Nat → Int32} {oPPlace : Int32} {oPToken : Int32} {oPFrom : Int32} {oPNumber : Int32} (C : KC G D cX4_toNextToken RX4 wsX4_toNextToken ({ frames := 1, cells := 0, slots := 0, locals := 22 } : Room) 2 none none [(p0, .inr (4, [.int pLength, .int pLatestFault, .ref pBytesA, .int oPPlace, .int oPToken, .int oPFrom, .int oPNumber, .int pPlanned])), (pBytesA, .inl (D.1 7, 160, .inl pBytes))]) (hf : f_X4_toNextToken_84 v1 pLength pPlace pToken pFrom pNumber pBytes = some (oPPlace, oPToken, oPFrom, oPNumber)) : JW G D 84 [(0, .ref p0), (1, .int v1)] [] [(p0, .inr (4, [.int pLength, .int pLatestFault, .ref pBytesA, .int pPlace, .int pToken, .int pFrom, .int pNumber, .int pPlanned])), (pBytesA, .inl (D.1 7, 160, .inl pBytes))] := by
  unfold f_X4_toNextToken_84 at hf
  refine j_iload_n (pc := 84) C 1 rfl dX4_toNextToken_84 ?_
  refine j_bipush (pc := 85) 48 C (by decide) dX4_toNextToken_85 ?_
  refine j_icmp_lt (pc := 87) 137 C hf (by decide) dX4_toNextToken_87 (fun hf => ?_) (fun hf => ?_)
  · exact t_X4_toNextToken_137 C hf
  · refine j_iload_n (pc := 90) C 1 rfl dX4_toNextToken_90 ?_
    refine j_bipush (pc := 91) 57 C (by decide) dX4_toNextToken_91 ?_
    refine j_icmp_gt (pc := 93) 137 C hf (by decide) dX4_toNextToken_93 (fun hf => ?_) (fun hf => ?_)
    · exact t_X4_toNextToken_137 C hf
    · refine j_aload_n (pc := 96) C 0 rfl dX4_toNextToken_96 ?_
      refine j_bipush (pc := 97) 48 C (by decide) dX4_toNextToken_97 ?_
      refine j_bipush (pc := 99) 57 C (by decide) dX4_toNextToken_99 ?_
      obtain ⟨pPlace_2, hu, hf⟩ := ob1_some hf
      refine j_callV (pc := 101) (N := 2) (qr := 0) (ci := 4) [.int 48, .int 57] [] [.int 57, .int 48, .ref p0] [] [(p0, .inr (4, [.int pLength, .int pLatestFault, .ref pBytesA, .int pPlace_2, .int pToken, .int pFrom, .int pNumber, .int pPlanned])), (pBytesA, .inl (D.1 7, 160, .inl pBytes))] [] [p0, pBytesA] [0, 1] [] C (c_X4_passAll D p0 pBytesA 48 57 pLength pLatestFault pPlace pToken pFrom pNumber pPlanned pBytes pPlace_2 hu) k_X4_passAll gX4_toNextToken_X4_passAll ⟨rfl, rfl⟩ ⟨Nat.le_of_ble_eq_true rfl, Nat.le_of_ble_eq_true rfl⟩ rfl rfl rfl rfl rfl rfl (Nat.le_of_ble_eq_true rfl) rfl rfl rfl rfl (by decide) (by decide) (by decide) rfl rfl rfl dX4_toNextToken_101 ?_
      refine j_aload_n (pc := 104) C 0 rfl dX4_toNextToken_104 ?_
      refine j_aload_n (pc := 105) C 0 rfl dX4_toNextToken_105 ?_
      refine j_get (pc := 106) 0 4 3 C iw_X4_toNextToken_X4 rfl rfl (by decide) fl_X4_toNextToken_20 rfl rfl dX4_toNextToken_106 ?_
      refine j_aload_n (pc := 109) C 0 rfl dX4_toNextToken_109 ?_
      refine j_get (pc := 110) 0 4 5 C iw_X4_toNextToken_X4 rfl rfl (by decide) fl_X4_toNextToken_41 rfl rfl dX4_toNextToken_110 ?_
      refine j_isub (pc := 113) C dX4_toNextToken_113 ?_
      refine j_iconst (pc := 114) 2 C (by decide) dX4_toNextToken_114 ?_
      refine j_icmp_le (pc := 115) 122 C hf (by decide) dX4_toNextToken_115 (fun hf => ?_) (fun hf => ?_)
      · refine j_iconst (pc := 122) 2 C (by decide) dX4_toNextToken_122 ?_
        refine j_lv [(0, .ref p0)] [0] rfl ?_
        exact t_X4_toNextToken_123 C hf
      · refine j_iconst (pc := 118) 4 C (by decide) dX4_toNextToken_118 ?_
        refine j_goto (pc := 119) 123 C (by decide) dX4_toNextToken_119 ?_
        refine j_lv [(0, .ref p0)] [0] rfl ?_
        exact t_X4_toNextToken_123 C hf
set_option maxHeartbeats 4000000 in
set_option maxRecDepth 100000 in
theorem t_X4_toNextToken_41 {G : jX} {D : va_G} {p0 pBytesA : Nat} {u0 : Int32} {pLength : Int32} {pLatestFault : Int32} {pPlace : Int32} {pToken : Int32} {pFrom : Int32} {pNumber : Int32} {pPlanned : Int32} {pBytes : Nat → Int32} {oPPlace : Int32} {oPToken : Int32} {oPFrom : Int32} {oPNumber : Int32} (C : KC G D cX4_toNextToken RX4 wsX4_toNextToken ({ frames := 1, cells := 0, slots := 0, locals := 22 } : Room) 2 none none [(p0, .inr (4, [.int pLength, .int pLatestFault, .ref pBytesA, .int oPPlace, .int oPToken, .int oPFrom, .int oPNumber, .int pPlanned])), (pBytesA, .inl (D.1 7, 160, .inl pBytes))]) (hf : f_X4_toNextToken_41 u0 pLength pPlace pToken pFrom pNumber pBytes = some (oPPlace, oPToken, oPFrom, oPNumber)) : JW G D 41 [(0, .ref p0)] [.int u0] [(p0, .inr (4, [.int pLength, .int pLatestFault, .ref pBytesA, .int pPlace, .int pToken, .int pFrom, .int pNumber, .int pPlanned])), (pBytesA, .inl (D.1 7, 160, .inl pBytes))] := by
  unfold f_X4_toNextToken_41 at hf
  refine j_istore_n (pc := 41) 1 [(0, .ref p0), (1, .int u0)] [1, 0] C rfl (by decide) rfl dX4_toNextToken_41 ?_
  refine j_iload_n (pc := 42) C 1 rfl dX4_toNextToken_42 ?_
  refine j_bipush (pc := 43) (-4) C (by decide) dX4_toNextToken_43 ?_
  refine j_icmp_ne (pc := 45) 56 C hf (by decide) dX4_toNextToken_45 (fun hf => ?_) (fun hf => ?_)
  · refine j_iload_n (pc := 56) C 1 rfl dX4_toNextToken_56 ?_
    refine j_bipush (pc := 57) 97 C (by decide) dX4_toNextToken_57 ?_
    refine j_icmp_lt (pc := 59) 84 C hf (by decide) dX4_toNextToken_59 (fun hf => ?_) (fun hf => ?_)
    · exact t_X4_toNextToken_84 C hf
    · refine j_iload_n (pc := 62) C 1 rfl dX4_toNextToken_62 ?_
      refine j_bipush (pc := 63) 122 C (by decide) dX4_toNextToken_63 ?_
      refine j_icmp_gt (pc := 65) 84 C hf (by decide) dX4_toNextToken_65 (fun hf => ?_) (fun hf => ?_)
      · exact t_X4_toNextToken_84 C hf
      · refine j_aload_n (pc := 68) C 0 rfl dX4_toNextToken_68 ?_
        refine j_iconst (pc := 69) 1 C (by decide) dX4_toNextToken_69 ?_
        refine j_put (pc := 70) (ty := .int) 0 4 4 [(p0, .inr (4, [.int pLength, .int pLatestFault, .ref pBytesA, .int pPlace, .int 1, .int pFrom, .int pNumber, .int pPlanned])), (pBytesA, .inl (D.1 7, 160, .inl pBytes))] C iw_X4_toNextToken_X4 tyX4 tyX4_ok nmX4 rfl rfl (by decide) fl_X4_toNextToken_34 rfl rfl rfl rfl rfl (Nat.le_of_ble_eq_true rfl) rfl dX4_toNextToken_70 ?_
        refine j_aload_n (pc := 73) C 0 rfl dX4_toNextToken_73 ?_
        refine j_bipush (pc := 74) 97 C (by decide) dX4_toNextToken_74 ?_
        refine j_bipush (pc := 76) 122 C (by decide) dX4_toNextToken_76 ?_
        obtain ⟨pPlace_4, hu, hf⟩ := ob1_some hf
        refine j_callV (pc := 78) (N := 2) (qr := 0) (ci := 4) [.int 97, .int 122] [] [.int 122, .int 97, .ref p0] [] [(p0, .inr (4, [.int pLength, .int pLatestFault, .ref pBytesA, .int pPlace_4, .int 1, .int pFrom, .int pNumber, .int pPlanned])), (pBytesA, .inl (D.1 7, 160, .inl pBytes))] [] [p0, pBytesA] [0, 1] [] C (c_X4_passAll D p0 pBytesA 97 122 pLength pLatestFault pPlace 1 pFrom pNumber pPlanned pBytes pPlace_4 hu) k_X4_passAll gX4_toNextToken_X4_passAll ⟨rfl, rfl⟩ ⟨Nat.le_of_ble_eq_true rfl, Nat.le_of_ble_eq_true rfl⟩ rfl rfl rfl rfl rfl rfl (Nat.le_of_ble_eq_true rfl) rfl rfl rfl rfl (by decide) (by decide) (by decide) rfl rfl rfl dX4_toNextToken_78 ?_
        refine j_goto (pc := 81) 162 C (by decide) dX4_toNextToken_81 ?_
        obtain ⟨rfl, rfl, rfl, rfl⟩ := si4 hf
        exact j_vret (pc := 162) C dX4_toNextToken_162
  · refine j_aload_n (pc := 48) C 0 rfl dX4_toNextToken_48 ?_
    refine j_iconst (pc := 49) 0 C (by decide) dX4_toNextToken_49 ?_
    refine j_put (pc := 50) (ty := .int) 0 4 4 [(p0, .inr (4, [.int pLength, .int pLatestFault, .ref pBytesA, .int pPlace, .int 0, .int pFrom, .int pNumber, .int pPlanned])), (pBytesA, .inl (D.1 7, 160, .inl pBytes))] C iw_X4_toNextToken_X4 tyX4 tyX4_ok nmX4 rfl rfl (by decide) fl_X4_toNextToken_34 rfl rfl rfl rfl rfl (Nat.le_of_ble_eq_true rfl) rfl dX4_toNextToken_50 ?_
    refine j_goto (pc := 53) 162 C (by decide) dX4_toNextToken_53 ?_
    obtain ⟨rfl, rfl, rfl, rfl⟩ := si4 hf
    exact j_vret (pc := 162) C dX4_toNextToken_162
set_option maxHeartbeats 4000000 in
set_option maxRecDepth 100000 in
theorem t_X4_toNextToken_0 {G : jX} {D : va_G} {p0 pBytesA : Nat} {pLength : Int32} {pLatestFault : Int32} {pPlace : Int32} {pToken : Int32} {pFrom : Int32} {pNumber : Int32} {pPlanned : Int32} {pBytes : Nat → Int32} {oPPlace : Int32} {oPToken : Int32} {oPFrom : Int32} {oPNumber : Int32} (C : KC G D cX4_toNextToken RX4 wsX4_toNextToken ({ frames := 1, cells := 0, slots := 0, locals := 22 } : Room) 2 none none [(p0, .inr (4, [.int pLength, .int pLatestFault, .ref pBytesA, .int oPPlace, .int oPToken, .int oPFrom, .int oPNumber, .int pPlanned])), (pBytesA, .inl (D.1 7, 160, .inl pBytes))]) (hf : f_X4_toNextToken pLength pPlace pToken pFrom pNumber pBytes = some (oPPlace, oPToken, oPFrom, oPNumber)) : JW G D 0 [(0, .ref p0)] [] [(p0, .inr (4, [.int pLength, .int pLatestFault, .ref pBytesA, .int pPlace, .int pToken, .int pFrom, .int pNumber, .int pPlanned])), (pBytesA, .inl (D.1 7, 160, .inl pBytes))] := by
  unfold f_X4_toNextToken at hf
  refine j_aload_n (pc := 0) C 0 rfl dX4_toNextToken_0 ?_
  refine j_bipush (pc := 1) 32 C (by decide) dX4_toNextToken_1 ?_
  refine j_bipush (pc := 3) 32 C (by decide) dX4_toNextToken_3 ?_
  obtain ⟨pPlace_1, hu, hf⟩ := ob1_some hf
  refine j_callV (pc := 5) (N := 2) (qr := 0) (ci := 4) [.int 32, .int 32] [] [.int 32, .int 32, .ref p0] [] [(p0, .inr (4, [.int pLength, .int pLatestFault, .ref pBytesA, .int pPlace_1, .int pToken, .int pFrom, .int pNumber, .int pPlanned])), (pBytesA, .inl (D.1 7, 160, .inl pBytes))] [] [p0, pBytesA] [0, 1] [] C (c_X4_passAll D p0 pBytesA 32 32 pLength pLatestFault pPlace pToken pFrom pNumber pPlanned pBytes pPlace_1 hu) k_X4_passAll gX4_toNextToken_X4_passAll ⟨rfl, rfl⟩ ⟨Nat.le_of_ble_eq_true rfl, Nat.le_of_ble_eq_true rfl⟩ rfl rfl rfl rfl rfl rfl (Nat.le_of_ble_eq_true rfl) rfl rfl rfl rfl (by decide) (by decide) (by decide) rfl rfl rfl dX4_toNextToken_5 ?_
  refine j_aload_n (pc := 8) C 0 rfl dX4_toNextToken_8 ?_
  refine j_aload_n (pc := 9) C 0 rfl dX4_toNextToken_9 ?_
  refine j_get (pc := 10) 0 4 3 C iw_X4_toNextToken_X4 rfl rfl (by decide) fl_X4_toNextToken_20 rfl rfl dX4_toNextToken_10 ?_
  refine j_put (pc := 13) (ty := .int) 0 4 5 [(p0, .inr (4, [.int pLength, .int pLatestFault, .ref pBytesA, .int pPlace_1, .int pToken, .int pPlace_1, .int pNumber, .int pPlanned])), (pBytesA, .inl (D.1 7, 160, .inl pBytes))] C iw_X4_toNextToken_X4 tyX4 tyX4_ok nmX4 rfl rfl (by decide) fl_X4_toNextToken_41 rfl rfl rfl rfl rfl (Nat.le_of_ble_eq_true rfl) rfl dX4_toNextToken_13 ?_
  refine j_aload_n (pc := 16) C 0 rfl dX4_toNextToken_16 ?_
  refine j_get (pc := 17) 0 4 3 C iw_X4_toNextToken_X4 rfl rfl (by decide) fl_X4_toNextToken_20 rfl rfl dX4_toNextToken_17 ?_
  refine j_aload_n (pc := 20) C 0 rfl dX4_toNextToken_20 ?_
  refine j_get (pc := 21) 0 4 0 C iw_X4_toNextToken_X4 rfl rfl (by decide) fl_X4_toNextToken_108 rfl rfl dX4_toNextToken_21 ?_
  refine j_icmp_ge (pc := 24) 39 C hf (by decide) dX4_toNextToken_24 (fun hf => ?_) (fun hf => ?_)
  · refine j_bipush (pc := 39) (-4) C (by decide) dX4_toNextToken_39 ?_
    exact t_X4_toNextToken_41 C hf
  · refine j_aload_n (pc := 27) C 0 rfl dX4_toNextToken_27 ?_
    refine j_get (pc := 28) 0 4 2 C iw_X4_toNextToken_X4 rfl rfl (by decide) fl_X4_toNextToken_9 rfl rfl dX4_toNextToken_28 ?_
    refine j_aload_n (pc := 31) C 0 rfl dX4_toNextToken_31 ?_
    refine j_get (pc := 32) 0 4 3 C iw_X4_toNextToken_X4 rfl rfl (by decide) fl_X4_toNextToken_20 rfl rfl dX4_toNextToken_32 ?_
    refine j_iald (pc := 35) 1 C rfl hf dX4_toNextToken_35 (fun hf => ?_)
    refine j_goto (pc := 36) 41 C (by decide) dX4_toNextToken_36 ?_
    exact t_X4_toNextToken_41 C hf
theorem k_X4_toNextToken : CK yX4_toNextToken wsX4_toNextToken cX4_toNextToken 2 none 0 := ⟨rfl, by decide +kernel⟩
theorem c_X4_toNextToken (D : va_G) (p0 pBytesA : Nat) (pLength : Int32) (pLatestFault : Int32) (pPlace : Int32) (pToken : Int32) (pFrom : Int32) (pNumber : Int32) (pPlanned : Int32) (pBytes : Nat → Int32) (oPPlace : Int32) (oPToken : Int32) (oPFrom : Int32) (oPNumber : Int32) (hf : f_X4_toNextToken pLength pPlace pToken pFrom pNumber pBytes = some (oPPlace, oPToken, oPFrom, oPNumber)) : ∀ l, MW l yX4_toNextToken wsX4_toNextToken ({ frames := 1, cells := 0, slots := 0, locals := 22 } : Room) D [.ref p0] [(p0, .inr (4, [.int pLength, .int pLatestFault, .ref pBytesA, .int pPlace, .int pToken, .int pFrom, .int pNumber, .int pPlanned])), (pBytesA, .inl (D.1 7, 160, .inl pBytes))] none [(p0, .inr (4, [.int pLength, .int pLatestFault, .ref pBytesA, .int oPPlace, .int oPToken, .int oPFrom, .int oPNumber, .int pPlanned])), (pBytesA, .inl (D.1 7, 160, .inl pBytes))] := j_met (cc := cX4_toNextToken) (nl := 2) (rt := none) (own := RX4) (lv := [(0, .ref p0)]) (by decide +kernel) rfl rfl rfl (Nat.le_of_ble_eq_true rfl) (fun G C => t_X4_toNextToken_0 C hf)

-- X4_misplaced
theorem fl_X4_misplaced_34 : Cond.fieldLink RX4 34 "CellsInRow$Tape" "token" "I" ∈ wsX4_misplaced := by decide +kernel
theorem iw_X4_misplaced_X4 : ∀ w ∈ wsX40, w ∈ wsX4_misplaced := by decide +kernel
set_option maxHeartbeats 4000000 in
set_option maxRecDepth 100000 in
theorem t_X4_misplaced_14 {G : jX} {D : va_G} {p0 pBytesA : Nat} {u1 : Int32} {pLength : Int32} {pLatestFault : Int32} {pPlace : Int32} {pToken : Int32} {pFrom : Int32} {pNumber : Int32} {pPlanned : Int32} {pBytes : Nat → Int32} {oR : Int32} {oPLatestFault : Int32} (C : KC G D cX4_misplaced RX4 wsX4_misplaced ({ frames := 1, cells := 0, slots := 0, locals := 21 } : Room) 1 (some .boolean) (some (.int oR)) [(p0, .inr (4, [.int pLength, .int oPLatestFault, .ref pBytesA, .int pPlace, .int pToken, .int pFrom, .int pNumber, .int pPlanned])), (pBytesA, .inl (D.1 7, 160, .inl pBytes))]) (hf : f_X4_misplaced_14 u1 pLatestFault pToken = some (oR, oPLatestFault)) : JW G D 14 [] [.int u1, .ref p0] [(p0, .inr (4, [.int pLength, .int pLatestFault, .ref pBytesA, .int pPlace, .int pToken, .int pFrom, .int pNumber, .int pPlanned])), (pBytesA, .inl (D.1 7, 160, .inl pBytes))] := by
  unfold f_X4_misplaced_14 at hf
  obtain ⟨a_1, pLatestFault_2, hu, hf⟩ := ob2_some hf
  refine j_callV (pc := 14) (N := 2) (qr := 0) (ci := 4) [.int u1] [] [.int u1, .ref p0] [.int a_1] [(p0, .inr (4, [.int pLength, .int pLatestFault_2, .ref pBytesA, .int pPlace, .int pToken, .int pFrom, .int pNumber, .int pPlanned])), (pBytesA, .inl (D.1 7, 160, .inl pBytes))] [] [p0, pBytesA] [0, 1] [] C (c_X4_refused D p0 pBytesA u1 pLength pLatestFault pPlace pToken pFrom pNumber pPlanned pBytes a_1 pLatestFault_2 hu) k_X4_refused gX4_misplaced_X4_refused ⟨rfl, rfl⟩ ⟨Nat.le_of_ble_eq_true rfl, Nat.le_of_ble_eq_true rfl⟩ rfl rfl rfl rfl rfl rfl (Nat.le_of_ble_eq_true rfl) rfl rfl rfl rfl (by decide) (by decide) (by decide) rfl rfl rfl dX4_misplaced_14 ?_
  obtain ⟨hz, hf⟩ := cz_some hf
  obtain ⟨rfl, rfl⟩ := si2 hf
  exact j_zret (pc := 17) C hz dX4_misplaced_17
set_option maxHeartbeats 4000000 in
set_option maxRecDepth 100000 in
theorem t_X4_misplaced_0 {G : jX} {D : va_G} {p0 pBytesA : Nat} {pLength : Int32} {pLatestFault : Int32} {pPlace : Int32} {pToken : Int32} {pFrom : Int32} {pNumber : Int32} {pPlanned : Int32} {pBytes : Nat → Int32} {oR : Int32} {oPLatestFault : Int32} (C : KC G D cX4_misplaced RX4 wsX4_misplaced ({ frames := 1, cells := 0, slots := 0, locals := 21 } : Room) 1 (some .boolean) (some (.int oR)) [(p0, .inr (4, [.int pLength, .int oPLatestFault, .ref pBytesA, .int pPlace, .int pToken, .int pFrom, .int pNumber, .int pPlanned])), (pBytesA, .inl (D.1 7, 160, .inl pBytes))]) (hf : f_X4_misplaced pLatestFault pToken = some (oR, oPLatestFault)) : JW G D 0 [(0, .ref p0)] [] [(p0, .inr (4, [.int pLength, .int pLatestFault, .ref pBytesA, .int pPlace, .int pToken, .int pFrom, .int pNumber, .int pPlanned])), (pBytesA, .inl (D.1 7, 160, .inl pBytes))] := by
  unfold f_X4_misplaced at hf
  refine j_aload_n (pc := 0) C 0 rfl dX4_misplaced_0 ?_
  refine j_aload_n (pc := 1) C 0 rfl dX4_misplaced_1 ?_
  refine j_get (pc := 2) 0 4 4 C iw_X4_misplaced_X4 rfl rfl (by decide) fl_X4_misplaced_34 rfl rfl dX4_misplaced_2 ?_
  refine j_iconst (pc := 5) 4 C (by decide) dX4_misplaced_5 ?_
  refine j_icmp_ne (pc := 6) 13 C hf (by decide) dX4_misplaced_6 (fun hf => ?_) (fun hf => ?_)
  · refine j_iconst (pc := 13) 2 C (by decide) dX4_misplaced_13 ?_
    refine j_lv [] [] rfl ?_
    exact t_X4_misplaced_14 C hf
  · refine j_iconst (pc := 9) 1 C (by decide) dX4_misplaced_9 ?_
    refine j_goto (pc := 10) 14 C (by decide) dX4_misplaced_10 ?_
    refine j_lv [] [] rfl ?_
    exact t_X4_misplaced_14 C hf
theorem k_X4_misplaced : CK yX4_misplaced wsX4_misplaced cX4_misplaced 1 (some .boolean) 0 := ⟨rfl, by decide +kernel⟩
theorem c_X4_misplaced (D : va_G) (p0 pBytesA : Nat) (pLength : Int32) (pLatestFault : Int32) (pPlace : Int32) (pToken : Int32) (pFrom : Int32) (pNumber : Int32) (pPlanned : Int32) (pBytes : Nat → Int32) (oR : Int32) (oPLatestFault : Int32) (hf : f_X4_misplaced pLatestFault pToken = some (oR, oPLatestFault)) : ∀ l, MW l yX4_misplaced wsX4_misplaced ({ frames := 1, cells := 0, slots := 0, locals := 21 } : Room) D [.ref p0] [(p0, .inr (4, [.int pLength, .int pLatestFault, .ref pBytesA, .int pPlace, .int pToken, .int pFrom, .int pNumber, .int pPlanned])), (pBytesA, .inl (D.1 7, 160, .inl pBytes))] (some (.int oR)) [(p0, .inr (4, [.int pLength, .int oPLatestFault, .ref pBytesA, .int pPlace, .int pToken, .int pFrom, .int pNumber, .int pPlanned])), (pBytesA, .inl (D.1 7, 160, .inl pBytes))] := j_met (cc := cX4_misplaced) (nl := 1) (rt := (some .boolean)) (own := RX4) (lv := [(0, .ref p0)]) (by decide +kernel) rfl rfl rfl (Nat.le_of_ble_eq_true rfl) (fun G C => t_X4_misplaced_0 C hf)

-- X4_numberIsTaken
theorem fl_X4_numberIsTaken_34 : Cond.fieldLink RX4 34 "CellsInRow$Tape" "token" "I" ∈ wsX4_numberIsTaken := by decide +kernel
theorem iw_X4_numberIsTaken_X4 : ∀ w ∈ wsX40, w ∈ wsX4_numberIsTaken := by decide +kernel
theorem fl_X4_numberIsTaken_76 : Cond.fieldLink RX4 76 "CellsInRow$Tape" "number" "I" ∈ wsX4_numberIsTaken := by decide +kernel
set_option maxHeartbeats 4000000 in
set_option maxRecDepth 100000 in
theorem t_X4_numberIsTaken_33 {G : jX} {D : va_G} {p0 pBytesA : Nat} {pLength : Int32} {pLatestFault : Int32} {pPlace : Int32} {pToken : Int32} {pFrom : Int32} {pNumber : Int32} {pPlanned : Int32} {pBytes : Nat → Int32} {oR : Int32} {oPLatestFault : Int32} {oPPlace : Int32} {oPToken : Int32} {oPFrom : Int32} {oPNumber : Int32} (C : KC G D cX4_numberIsTaken RX4 wsX4_numberIsTaken ({ frames := 2, cells := 0, slots := 0, locals := 43 } : Room) 3 (some .boolean) (some (.int oR)) [(p0, .inr (4, [.int pLength, .int oPLatestFault, .ref pBytesA, .int oPPlace, .int oPToken, .int oPFrom, .int oPNumber, .int pPlanned])), (pBytesA, .inl (D.1 7, 160, .inl pBytes))]) (hf : f_X4_numberIsTaken_33 pLength pLatestFault pPlace pToken pFrom pNumber pBytes = some (oR, oPLatestFault, oPPlace, oPToken, oPFrom, oPNumber)) : JW G D 33 [(0, .ref p0)] [] [(p0, .inr (4, [.int pLength, .int pLatestFault, .ref pBytesA, .int pPlace, .int pToken, .int pFrom, .int pNumber, .int pPlanned])), (pBytesA, .inl (D.1 7, 160, .inl pBytes))] := by
  unfold f_X4_numberIsTaken_33 at hf
  refine j_aload_n (pc := 33) C 0 rfl dX4_numberIsTaken_33 ?_
  refine j_iconst (pc := 34) 3 C (by decide) dX4_numberIsTaken_34 ?_
  obtain ⟨a_5, pLatestFault_6, hu, hf⟩ := ob2_some hf
  refine j_callV (pc := 35) (N := 2) (qr := 0) (ci := 4) [.int 3] [] [.int 3, .ref p0] [.int a_5] [(p0, .inr (4, [.int pLength, .int pLatestFault_6, .ref pBytesA, .int pPlace, .int pToken, .int pFrom, .int pNumber, .int pPlanned])), (pBytesA, .inl (D.1 7, 160, .inl pBytes))] [] [p0, pBytesA] [0, 1] [] C (c_X4_refused D p0 pBytesA 3 pLength pLatestFault pPlace pToken pFrom pNumber pPlanned pBytes a_5 pLatestFault_6 hu) k_X4_refused gX4_numberIsTaken_X4_refused ⟨rfl, rfl⟩ ⟨Nat.le_of_ble_eq_true rfl, Nat.le_of_ble_eq_true rfl⟩ rfl rfl rfl rfl rfl rfl (Nat.le_of_ble_eq_true rfl) rfl rfl rfl rfl (by decide) (by decide) (by decide) rfl rfl rfl dX4_numberIsTaken_35 ?_
  refine j_if_eq (pc := 38) 45 C hf (by decide) dX4_numberIsTaken_38 (fun hf => ?_) (fun hf => ?_)
  · refine j_iconst (pc := 45) 0 C (by decide) dX4_numberIsTaken_45 ?_
    obtain ⟨rfl, rfl, rfl, rfl, rfl, rfl⟩ := si6 hf
    exact j_zret (pc := 46) C (by decide) dX4_numberIsTaken_46
  · refine j_iconst (pc := 41) 1 C (by decide) dX4_numberIsTaken_41 ?_
    refine j_goto (pc := 42) 46 C (by decide) dX4_numberIsTaken_42 ?_
    obtain ⟨rfl, rfl, rfl, rfl, rfl, rfl⟩ := si6 hf
    exact j_zret (pc := 46) C (by decide) dX4_numberIsTaken_46
set_option maxHeartbeats 4000000 in
set_option maxRecDepth 100000 in
theorem t_X4_numberIsTaken_0 {G : jX} {D : va_G} {p0 pBytesA : Nat} {v1 : Int32} {v2 : Int32} {pLength : Int32} {pLatestFault : Int32} {pPlace : Int32} {pToken : Int32} {pFrom : Int32} {pNumber : Int32} {pPlanned : Int32} {pBytes : Nat → Int32} {oR : Int32} {oPLatestFault : Int32} {oPPlace : Int32} {oPToken : Int32} {oPFrom : Int32} {oPNumber : Int32} (C : KC G D cX4_numberIsTaken RX4 wsX4_numberIsTaken ({ frames := 2, cells := 0, slots := 0, locals := 43 } : Room) 3 (some .boolean) (some (.int oR)) [(p0, .inr (4, [.int pLength, .int oPLatestFault, .ref pBytesA, .int oPPlace, .int oPToken, .int oPFrom, .int oPNumber, .int pPlanned])), (pBytesA, .inl (D.1 7, 160, .inl pBytes))]) (hf : f_X4_numberIsTaken v1 v2 pLength pLatestFault pPlace pToken pFrom pNumber pBytes = some (oR, oPLatestFault, oPPlace, oPToken, oPFrom, oPNumber)) : JW G D 0 [(0, .ref p0), (1, .int v1), (2, .int v2)] [] [(p0, .inr (4, [.int pLength, .int pLatestFault, .ref pBytesA, .int pPlace, .int pToken, .int pFrom, .int pNumber, .int pPlanned])), (pBytesA, .inl (D.1 7, 160, .inl pBytes))] := by
  unfold f_X4_numberIsTaken at hf
  refine j_aload_n (pc := 0) C 0 rfl dX4_numberIsTaken_0 ?_
  obtain ⟨pPlace_1, pToken_2, pFrom_3, pNumber_4, hu, hf⟩ := ob4_some hf
  refine j_callV (pc := 1) (N := 2) (qr := 0) (ci := 4) [] [] [.ref p0] [] [(p0, .inr (4, [.int pLength, .int pLatestFault, .ref pBytesA, .int pPlace_1, .int pToken_2, .int pFrom_3, .int pNumber_4, .int pPlanned])), (pBytesA, .inl (D.1 7, 160, .inl pBytes))] [] [p0, pBytesA] [0, 1] [] C (c_X4_toNextToken D p0 pBytesA pLength pLatestFault pPlace pToken pFrom pNumber pPlanned pBytes pPlace_1 pToken_2 pFrom_3 pNumber_4 hu) k_X4_toNextToken gX4_numberIsTaken_X4_toNextToken ⟨rfl, rfl⟩ ⟨Nat.le_of_ble_eq_true rfl, Nat.le_of_ble_eq_true rfl⟩ rfl rfl rfl rfl rfl rfl (Nat.le_of_ble_eq_true rfl) rfl rfl rfl rfl (by decide) (by decide) (by decide) rfl rfl rfl dX4_numberIsTaken_1 ?_
  refine j_aload_n (pc := 4) C 0 rfl dX4_numberIsTaken_4 ?_
  refine j_get (pc := 5) 0 4 4 C iw_X4_numberIsTaken_X4 rfl rfl (by decide) fl_X4_numberIsTaken_34 rfl rfl dX4_numberIsTaken_5 ?_
  refine j_iconst (pc := 8) 2 C (by decide) dX4_numberIsTaken_8 ?_
  refine j_icmp_eq (pc := 9) 17 C hf (by decide) dX4_numberIsTaken_9 (fun hf => ?_) (fun hf => ?_)
  · refine j_aload_n (pc := 17) C 0 rfl dX4_numberIsTaken_17 ?_
    refine j_get (pc := 18) 0 4 6 C iw_X4_numberIsTaken_X4 rfl rfl (by decide) fl_X4_numberIsTaken_76 rfl rfl dX4_numberIsTaken_18 ?_
    refine j_iload_n (pc := 21) C 1 rfl dX4_numberIsTaken_21 ?_
    refine j_icmp_lt (pc := 22) 33 C hf (by decide) dX4_numberIsTaken_22 (fun hf => ?_) (fun hf => ?_)
    · refine j_lv [(0, .ref p0)] [0] rfl ?_
      exact t_X4_numberIsTaken_33 C hf
    · refine j_aload_n (pc := 25) C 0 rfl dX4_numberIsTaken_25 ?_
      refine j_get (pc := 26) 0 4 6 C iw_X4_numberIsTaken_X4 rfl rfl (by decide) fl_X4_numberIsTaken_76 rfl rfl dX4_numberIsTaken_26 ?_
      refine j_iload_n (pc := 29) C 2 rfl dX4_numberIsTaken_29 ?_
      refine j_icmp_le (pc := 30) 41 C hf (by decide) dX4_numberIsTaken_30 (fun hf => ?_) (fun hf => ?_)
      · refine j_iconst (pc := 41) 1 C (by decide) dX4_numberIsTaken_41 ?_
        refine j_goto (pc := 42) 46 C (by decide) dX4_numberIsTaken_42 ?_
        obtain ⟨rfl, rfl, rfl, rfl, rfl, rfl⟩ := si6 hf
        exact j_zret (pc := 46) C (by decide) dX4_numberIsTaken_46
      · refine j_lv [(0, .ref p0)] [0] rfl ?_
        exact t_X4_numberIsTaken_33 C hf
  · refine j_aload_n (pc := 12) C 0 rfl dX4_numberIsTaken_12 ?_
    obtain ⟨a_7, pLatestFault_8, hu, hf⟩ := ob2_some hf
    refine j_callV (pc := 13) (N := 2) (qr := 0) (ci := 4) [] [] [.ref p0] [.int a_7] [(p0, .inr (4, [.int pLength, .int pLatestFault_8, .ref pBytesA, .int pPlace_1, .int pToken_2, .int pFrom_3, .int pNumber_4, .int pPlanned])), (pBytesA, .inl (D.1 7, 160, .inl pBytes))] [] [p0, pBytesA] [0, 1] [] C (c_X4_misplaced D p0 pBytesA pLength pLatestFault pPlace_1 pToken_2 pFrom_3 pNumber_4 pPlanned pBytes a_7 pLatestFault_8 hu) k_X4_misplaced gX4_numberIsTaken_X4_misplaced ⟨rfl, rfl⟩ ⟨Nat.le_of_ble_eq_true rfl, Nat.le_of_ble_eq_true rfl⟩ rfl rfl rfl rfl rfl rfl (Nat.le_of_ble_eq_true rfl) rfl rfl rfl rfl (by decide) (by decide) (by decide) rfl rfl rfl dX4_numberIsTaken_13 ?_
    obtain ⟨hz, hf⟩ := cz_some hf
    obtain ⟨rfl, rfl, rfl, rfl, rfl, rfl⟩ := si6 hf
    exact j_zret (pc := 16) C hz dX4_numberIsTaken_16
theorem k_X4_numberIsTaken : CK yX4_numberIsTaken wsX4_numberIsTaken cX4_numberIsTaken 3 (some .boolean) 2 := ⟨rfl, by decide +kernel⟩
theorem c_X4_numberIsTaken (D : va_G) (p0 pBytesA : Nat) (v1 : Int32) (v2 : Int32) (pLength : Int32) (pLatestFault : Int32) (pPlace : Int32) (pToken : Int32) (pFrom : Int32) (pNumber : Int32) (pPlanned : Int32) (pBytes : Nat → Int32) (oR : Int32) (oPLatestFault : Int32) (oPPlace : Int32) (oPToken : Int32) (oPFrom : Int32) (oPNumber : Int32) (hf : f_X4_numberIsTaken v1 v2 pLength pLatestFault pPlace pToken pFrom pNumber pBytes = some (oR, oPLatestFault, oPPlace, oPToken, oPFrom, oPNumber)) : ∀ l, MW l yX4_numberIsTaken wsX4_numberIsTaken ({ frames := 2, cells := 0, slots := 0, locals := 43 } : Room) D [.ref p0, .int v1, .int v2] [(p0, .inr (4, [.int pLength, .int pLatestFault, .ref pBytesA, .int pPlace, .int pToken, .int pFrom, .int pNumber, .int pPlanned])), (pBytesA, .inl (D.1 7, 160, .inl pBytes))] (some (.int oR)) [(p0, .inr (4, [.int pLength, .int oPLatestFault, .ref pBytesA, .int oPPlace, .int oPToken, .int oPFrom, .int oPNumber, .int pPlanned])), (pBytesA, .inl (D.1 7, 160, .inl pBytes))] := j_met (cc := cX4_numberIsTaken) (nl := 3) (rt := (some .boolean)) (own := RX4) (lv := [(0, .ref p0), (1, .int v1), (2, .int v2)]) (by decide +kernel) rfl rfl rfl (Nat.le_of_ble_eq_true rfl) (fun G C => t_X4_numberIsTaken_0 C hf)

-- X4_cellIsTaken
theorem fl_X4_cellIsTaken_65 : Cond.fieldLink RX4 65 "CellsInRow$Row" "cells" "I" ∈ wsX4_cellIsTaken := by decide +kernel
theorem iw_X4_cellIsTaken_X1 : ∀ w ∈ wsX10, w ∈ wsX4_cellIsTaken := by decide +kernel
theorem fl_X4_cellIsTaken_76 : Cond.fieldLink RX4 76 "CellsInRow$Tape" "number" "I" ∈ wsX4_cellIsTaken := by decide +kernel
theorem iw_X4_cellIsTaken_X4 : ∀ w ∈ wsX40, w ∈ wsX4_cellIsTaken := by decide +kernel
theorem fl_X4_cellIsTaken_34 : Cond.fieldLink RX4 34 "CellsInRow$Tape" "token" "I" ∈ wsX4_cellIsTaken := by decide +kernel
set_option maxHeartbeats 4000000 in
set_option maxRecDepth 100000 in
theorem t_X4_cellIsTaken_0 {G : jX} {D : va_G} {p0 pBytesA r0 rKindA rRoomA rChargeA rLeakA rPlanA : Nat} {v2 : Int32} {pLength : Int32} {pLatestFault : Int32} {pPlace : Int32} {pToken : Int32} {pFrom : Int32} {pNumber : Int32} {pPlanned : Int32} {pBytes : Nat → Int32} {rCells : Int32} {rSigns : Int32} {rHour : Int32} {rStops : Int32} {rWaste : Int32} {rDone : Int32} {rBridged : Int32} {rKind : Nat → Int32} {rRoom : Nat → Int32} {rCharge : Nat → Int32} {rLeak : Nat → Int32} {rPlan : Nat → Int32} {oR : Int32} {oPLatestFault : Int32} {oPPlace : Int32} {oPToken : Int32} {oPFrom : Int32} {oPNumber : Int32} {oRCells : Int32} {oRKind : Nat → Int32} {oRRoom : Nat → Int32} {oRCharge : Nat → Int32} {oRLeak : Nat → Int32} (C : KC G D cX4_cellIsTaken RX4 wsX4_cellIsTaken ({ frames := 3, cells := 0, slots := 0, locals := 65 } : Room) 5 (some .boolean) (some (.int oR)) [(p0, .inr (4, [.int pLength, .int oPLatestFault, .ref pBytesA, .int oPPlace, .int oPToken, .int oPFrom, .int oPNumber, .int pPlanned])), (pBytesA, .inl (D.1 7, 160, .inl pBytes)), (r0, .inr (1, [.int oRCells, .int rSigns, .int rHour, .int rStops, .int rWaste, .int rDone, .int rBridged, .ref rKindA, .ref rRoomA, .ref rChargeA, .ref rLeakA, .ref rPlanA])), (rKindA, .inl (D.1 7, 5, .inl oRKind)), (rRoomA, .inl (D.1 7, 5, .inl oRRoom)), (rChargeA, .inl (D.1 7, 5, .inl oRCharge)), (rLeakA, .inl (D.1 7, 5, .inl oRLeak)), (rPlanA, .inl (D.1 7, 16, .inl rPlan))]) (hf : f_X4_cellIsTaken v2 pLength pLatestFault pPlace pToken pFrom pNumber pBytes rCells rKind rRoom rCharge rLeak = some (oR, oPLatestFault, oPPlace, oPToken, oPFrom, oPNumber, oRCells, oRKind, oRRoom, oRCharge, oRLeak)) : JW G D 0 [(0, .ref p0), (1, .ref r0), (2, .int v2)] [] [(p0, .inr (4, [.int pLength, .int pLatestFault, .ref pBytesA, .int pPlace, .int pToken, .int pFrom, .int pNumber, .int pPlanned])), (pBytesA, .inl (D.1 7, 160, .inl pBytes)), (r0, .inr (1, [.int rCells, .int rSigns, .int rHour, .int rStops, .int rWaste, .int rDone, .int rBridged, .ref rKindA, .ref rRoomA, .ref rChargeA, .ref rLeakA, .ref rPlanA])), (rKindA, .inl (D.1 7, 5, .inl rKind)), (rRoomA, .inl (D.1 7, 5, .inl rRoom)), (rChargeA, .inl (D.1 7, 5, .inl rCharge)), (rLeakA, .inl (D.1 7, 5, .inl rLeak)), (rPlanA, .inl (D.1 7, 16, .inl rPlan))] := by
  unfold f_X4_cellIsTaken at hf
  refine j_aload_n (pc := 0) C 1 rfl dX4_cellIsTaken_0 ?_
  refine j_get (pc := 1) 2 1 0 C iw_X4_cellIsTaken_X1 rfl rfl (by decide) fl_X4_cellIsTaken_65 rfl rfl dX4_cellIsTaken_1 ?_
  refine j_iconst (pc := 4) 5 C (by decide) dX4_cellIsTaken_4 ?_
  refine j_icmp_lt (pc := 5) 14 C hf (by decide) dX4_cellIsTaken_5 (fun hf => ?_) (fun hf => ?_)
  · refine j_aload_n (pc := 14) C 0 rfl dX4_cellIsTaken_14 ?_
    refine j_iconst (pc := 15) 1 C (by decide) dX4_cellIsTaken_15 ?_
    refine j_bipush (pc := 16) 99 C (by decide) dX4_cellIsTaken_16 ?_
    obtain ⟨a_1, pLatestFault_2, pPlace_3, pToken_4, pFrom_5, pNumber_6, hu, hf⟩ := ob6_some hf
    refine j_callV (pc := 18) (N := 8) (qr := 0) (ci := 4) [.int 1, .int 99] [] [.int 99, .int 1, .ref p0] [.int a_1] [(p0, .inr (4, [.int pLength, .int pLatestFault_2, .ref pBytesA, .int pPlace_3, .int pToken_4, .int pFrom_5, .int pNumber_6, .int pPlanned])), (pBytesA, .inl (D.1 7, 160, .inl pBytes)), (r0, .inr (1, [.int rCells, .int rSigns, .int rHour, .int rStops, .int rWaste, .int rDone, .int rBridged, .ref rKindA, .ref rRoomA, .ref rChargeA, .ref rLeakA, .ref rPlanA])), (rKindA, .inl (D.1 7, 5, .inl rKind)), (rRoomA, .inl (D.1 7, 5, .inl rRoom)), (rChargeA, .inl (D.1 7, 5, .inl rCharge)), (rLeakA, .inl (D.1 7, 5, .inl rLeak)), (rPlanA, .inl (D.1 7, 16, .inl rPlan))] [(r0, .inr (1, [.int rCells, .int rSigns, .int rHour, .int rStops, .int rWaste, .int rDone, .int rBridged, .ref rKindA, .ref rRoomA, .ref rChargeA, .ref rLeakA, .ref rPlanA])), (rKindA, .inl (D.1 7, 5, .inl rKind)), (rRoomA, .inl (D.1 7, 5, .inl rRoom)), (rChargeA, .inl (D.1 7, 5, .inl rCharge)), (rLeakA, .inl (D.1 7, 5, .inl rLeak)), (rPlanA, .inl (D.1 7, 16, .inl rPlan))] [p0, pBytesA, r0, rKindA, rRoomA, rChargeA, rLeakA, rPlanA] [0, 1] [2, 3, 4, 5, 6, 7] C (c_X4_numberIsTaken D p0 pBytesA 1 99 pLength pLatestFault pPlace pToken pFrom pNumber pPlanned pBytes a_1 pLatestFault_2 pPlace_3 pToken_4 pFrom_5 pNumber_6 hu) k_X4_numberIsTaken gX4_cellIsTaken_X4_numberIsTaken ⟨rfl, rfl⟩ ⟨Nat.le_of_ble_eq_true rfl, Nat.le_of_ble_eq_true rfl⟩ rfl rfl rfl rfl rfl rfl (Nat.le_of_ble_eq_true rfl) rfl rfl rfl rfl (by decide) (by decide) (by decide) rfl rfl rfl dX4_cellIsTaken_18 ?_
    refine j_if_ne (pc := 21) 26 C hf (by decide) dX4_cellIsTaken_21 (fun hf => ?_) (fun hf => ?_)
    · refine j_aload_n (pc := 26) C 0 rfl dX4_cellIsTaken_26 ?_
      refine j_get (pc := 27) 0 4 6 C iw_X4_cellIsTaken_X4 rfl rfl (by decide) fl_X4_cellIsTaken_76 rfl rfl dX4_cellIsTaken_27 ?_
      refine j_istore_n (pc := 30) 3 [(0, .ref p0), (1, .ref r0), (2, .int v2), (3, .int pNumber_6)] [1, 2, 3, 0] C rfl (by decide) rfl dX4_cellIsTaken_30 ?_
      refine j_aload_n (pc := 31) C 0 rfl dX4_cellIsTaken_31 ?_
      refine j_iconst (pc := 32) 0 C (by decide) dX4_cellIsTaken_32 ?_
      refine j_iload_n (pc := 33) C 3 rfl dX4_cellIsTaken_33 ?_
      obtain ⟨a_7, pLatestFault_8, pPlace_9, pToken_10, pFrom_11, pNumber_12, hu, hf⟩ := ob6_some hf
      refine j_callV (pc := 34) (N := 8) (qr := 0) (ci := 4) [.int 0, .int pNumber_6] [] [.int pNumber_6, .int 0, .ref p0] [.int a_7] [(p0, .inr (4, [.int pLength, .int pLatestFault_8, .ref pBytesA, .int pPlace_9, .int pToken_10, .int pFrom_11, .int pNumber_12, .int pPlanned])), (pBytesA, .inl (D.1 7, 160, .inl pBytes)), (r0, .inr (1, [.int rCells, .int rSigns, .int rHour, .int rStops, .int rWaste, .int rDone, .int rBridged, .ref rKindA, .ref rRoomA, .ref rChargeA, .ref rLeakA, .ref rPlanA])), (rKindA, .inl (D.1 7, 5, .inl rKind)), (rRoomA, .inl (D.1 7, 5, .inl rRoom)), (rChargeA, .inl (D.1 7, 5, .inl rCharge)), (rLeakA, .inl (D.1 7, 5, .inl rLeak)), (rPlanA, .inl (D.1 7, 16, .inl rPlan))] [(r0, .inr (1, [.int rCells, .int rSigns, .int rHour, .int rStops, .int rWaste, .int rDone, .int rBridged, .ref rKindA, .ref rRoomA, .ref rChargeA, .ref rLeakA, .ref rPlanA])), (rKindA, .inl (D.1 7, 5, .inl rKind)), (rRoomA, .inl (D.1 7, 5, .inl rRoom)), (rChargeA, .inl (D.1 7, 5, .inl rCharge)), (rLeakA, .inl (D.1 7, 5, .inl rLeak)), (rPlanA, .inl (D.1 7, 16, .inl rPlan))] [p0, pBytesA, r0, rKindA, rRoomA, rChargeA, rLeakA, rPlanA] [0, 1] [2, 3, 4, 5, 6, 7] C (c_X4_numberIsTaken D p0 pBytesA 0 pNumber_6 pLength pLatestFault_2 pPlace_3 pToken_4 pFrom_5 pNumber_6 pPlanned pBytes a_7 pLatestFault_8 pPlace_9 pToken_10 pFrom_11 pNumber_12 hu) k_X4_numberIsTaken gX4_cellIsTaken_X4_numberIsTaken ⟨rfl, rfl⟩ ⟨Nat.le_of_ble_eq_true rfl, Nat.le_of_ble_eq_true rfl⟩ rfl rfl rfl rfl rfl rfl (Nat.le_of_ble_eq_true rfl) rfl rfl rfl rfl (by decide) (by decide) (by decide) rfl rfl rfl dX4_cellIsTaken_34 ?_
      refine j_if_ne (pc := 37) 42 C hf (by decide) dX4_cellIsTaken_37 (fun hf => ?_) (fun hf => ?_)
      · refine j_aload_n (pc := 42) C 0 rfl dX4_cellIsTaken_42 ?_
        refine j_get (pc := 43) 0 4 6 C iw_X4_cellIsTaken_X4 rfl rfl (by decide) fl_X4_cellIsTaken_76 rfl rfl dX4_cellIsTaken_43 ?_
        refine j_istore (pc := 46) 4 [(0, .ref p0), (1, .ref r0), (2, .int v2), (3, .int pNumber_6), (4, .int pNumber_12)] [1, 2, 3, 4, 0] C (by decide) rfl dX4_cellIsTaken_46 ?_
        refine j_aload_n (pc := 48) C 0 rfl dX4_cellIsTaken_48 ?_
        refine j_iconst (pc := 49) 0 C (by decide) dX4_cellIsTaken_49 ?_
        refine j_bipush (pc := 50) 9 C (by decide) dX4_cellIsTaken_50 ?_
        obtain ⟨a_13, pLatestFault_14, pPlace_15, pToken_16, pFrom_17, pNumber_18, hu, hf⟩ := ob6_some hf
        refine j_callV (pc := 52) (N := 8) (qr := 0) (ci := 4) [.int 0, .int 9] [] [.int 9, .int 0, .ref p0] [.int a_13] [(p0, .inr (4, [.int pLength, .int pLatestFault_14, .ref pBytesA, .int pPlace_15, .int pToken_16, .int pFrom_17, .int pNumber_18, .int pPlanned])), (pBytesA, .inl (D.1 7, 160, .inl pBytes)), (r0, .inr (1, [.int rCells, .int rSigns, .int rHour, .int rStops, .int rWaste, .int rDone, .int rBridged, .ref rKindA, .ref rRoomA, .ref rChargeA, .ref rLeakA, .ref rPlanA])), (rKindA, .inl (D.1 7, 5, .inl rKind)), (rRoomA, .inl (D.1 7, 5, .inl rRoom)), (rChargeA, .inl (D.1 7, 5, .inl rCharge)), (rLeakA, .inl (D.1 7, 5, .inl rLeak)), (rPlanA, .inl (D.1 7, 16, .inl rPlan))] [(r0, .inr (1, [.int rCells, .int rSigns, .int rHour, .int rStops, .int rWaste, .int rDone, .int rBridged, .ref rKindA, .ref rRoomA, .ref rChargeA, .ref rLeakA, .ref rPlanA])), (rKindA, .inl (D.1 7, 5, .inl rKind)), (rRoomA, .inl (D.1 7, 5, .inl rRoom)), (rChargeA, .inl (D.1 7, 5, .inl rCharge)), (rLeakA, .inl (D.1 7, 5, .inl rLeak)), (rPlanA, .inl (D.1 7, 16, .inl rPlan))] [p0, pBytesA, r0, rKindA, rRoomA, rChargeA, rLeakA, rPlanA] [0, 1] [2, 3, 4, 5, 6, 7] C (c_X4_numberIsTaken D p0 pBytesA 0 9 pLength pLatestFault_8 pPlace_9 pToken_10 pFrom_11 pNumber_12 pPlanned pBytes a_13 pLatestFault_14 pPlace_15 pToken_16 pFrom_17 pNumber_18 hu) k_X4_numberIsTaken gX4_cellIsTaken_X4_numberIsTaken ⟨rfl, rfl⟩ ⟨Nat.le_of_ble_eq_true rfl, Nat.le_of_ble_eq_true rfl⟩ rfl rfl rfl rfl rfl rfl (Nat.le_of_ble_eq_true rfl) rfl rfl rfl rfl (by decide) (by decide) (by decide) rfl rfl rfl dX4_cellIsTaken_52 ?_
        refine j_if_ne (pc := 55) 60 C hf (by decide) dX4_cellIsTaken_55 (fun hf => ?_) (fun hf => ?_)
        · refine j_aload_n (pc := 60) C 1 rfl dX4_cellIsTaken_60 ?_
          refine j_iload_n (pc := 61) C 2 rfl dX4_cellIsTaken_61 ?_
          refine j_iload_n (pc := 62) C 3 rfl dX4_cellIsTaken_62 ?_
          refine j_iload (pc := 63) C 4 rfl dX4_cellIsTaken_63 ?_
          refine j_aload_n (pc := 65) C 0 rfl dX4_cellIsTaken_65 ?_
          refine j_get (pc := 66) 0 4 6 C iw_X4_cellIsTaken_X4 rfl rfl (by decide) fl_X4_cellIsTaken_76 rfl rfl dX4_cellIsTaken_66 ?_
          obtain ⟨rCells_19, rKind_20, rRoom_21, rCharge_22, rLeak_23, hu, hf⟩ := ob5_some hf
          refine j_callV (pc := 69) (N := 8) (qr := 2) (ci := 1) [.int v2, .int pNumber_6, .int pNumber_12, .int pNumber_18] [] [.int pNumber_18, .int pNumber_12, .int pNumber_6, .int v2, .ref r0] [] [(p0, .inr (4, [.int pLength, .int pLatestFault_14, .ref pBytesA, .int pPlace_15, .int pToken_16, .int pFrom_17, .int pNumber_18, .int pPlanned])), (pBytesA, .inl (D.1 7, 160, .inl pBytes)), (r0, .inr (1, [.int rCells_19, .int rSigns, .int rHour, .int rStops, .int rWaste, .int rDone, .int rBridged, .ref rKindA, .ref rRoomA, .ref rChargeA, .ref rLeakA, .ref rPlanA])), (rKindA, .inl (D.1 7, 5, .inl rKind_20)), (rRoomA, .inl (D.1 7, 5, .inl rRoom_21)), (rChargeA, .inl (D.1 7, 5, .inl rCharge_22)), (rLeakA, .inl (D.1 7, 5, .inl rLeak_23)), (rPlanA, .inl (D.1 7, 16, .inl rPlan))] [(p0, .inr (4, [.int pLength, .int pLatestFault_14, .ref pBytesA, .int pPlace_15, .int pToken_16, .int pFrom_17, .int pNumber_18, .int pPlanned])), (pBytesA, .inl (D.1 7, 160, .inl pBytes))] [p0, pBytesA, r0, rKindA, rRoomA, rChargeA, rLeakA, rPlanA] [2, 3, 4, 5, 6, 7] [0, 1] C (c_X1_appendCell D r0 rKindA rRoomA rChargeA rLeakA rPlanA v2 pNumber_6 pNumber_12 pNumber_18 rCells rSigns rHour rStops rWaste rDone rBridged rKind rRoom rCharge rLeak rPlan rCells_19 rKind_20 rRoom_21 rCharge_22 rLeak_23 hu) k_X1_appendCell gX4_cellIsTaken_X1_appendCell ⟨rfl, rfl⟩ ⟨Nat.le_of_ble_eq_true rfl, Nat.le_of_ble_eq_true rfl⟩ rfl rfl rfl rfl rfl rfl (Nat.le_of_ble_eq_true rfl) rfl rfl rfl rfl (by decide) (by decide) (by decide) rfl rfl rfl dX4_cellIsTaken_69 ?_
          refine j_aload_n (pc := 72) C 0 rfl dX4_cellIsTaken_72 ?_
          obtain ⟨pPlace_24, pToken_25, pFrom_26, pNumber_27, hu, hf⟩ := ob4_some hf
          refine j_callV (pc := 73) (N := 8) (qr := 0) (ci := 4) [] [] [.ref p0] [] [(p0, .inr (4, [.int pLength, .int pLatestFault_14, .ref pBytesA, .int pPlace_24, .int pToken_25, .int pFrom_26, .int pNumber_27, .int pPlanned])), (pBytesA, .inl (D.1 7, 160, .inl pBytes)), (r0, .inr (1, [.int rCells_19, .int rSigns, .int rHour, .int rStops, .int rWaste, .int rDone, .int rBridged, .ref rKindA, .ref rRoomA, .ref rChargeA, .ref rLeakA, .ref rPlanA])), (rKindA, .inl (D.1 7, 5, .inl rKind_20)), (rRoomA, .inl (D.1 7, 5, .inl rRoom_21)), (rChargeA, .inl (D.1 7, 5, .inl rCharge_22)), (rLeakA, .inl (D.1 7, 5, .inl rLeak_23)), (rPlanA, .inl (D.1 7, 16, .inl rPlan))] [(r0, .inr (1, [.int rCells_19, .int rSigns, .int rHour, .int rStops, .int rWaste, .int rDone, .int rBridged, .ref rKindA, .ref rRoomA, .ref rChargeA, .ref rLeakA, .ref rPlanA])), (rKindA, .inl (D.1 7, 5, .inl rKind_20)), (rRoomA, .inl (D.1 7, 5, .inl rRoom_21)), (rChargeA, .inl (D.1 7, 5, .inl rCharge_22)), (rLeakA, .inl (D.1 7, 5, .inl rLeak_23)), (rPlanA, .inl (D.1 7, 16, .inl rPlan))] [p0, pBytesA, r0, rKindA, rRoomA, rChargeA, rLeakA, rPlanA] [0, 1] [2, 3, 4, 5, 6, 7] C (c_X4_toNextToken D p0 pBytesA pLength pLatestFault_14 pPlace_15 pToken_16 pFrom_17 pNumber_18 pPlanned pBytes pPlace_24 pToken_25 pFrom_26 pNumber_27 hu) k_X4_toNextToken gX4_cellIsTaken_X4_toNextToken ⟨rfl, rfl⟩ ⟨Nat.le_of_ble_eq_true rfl, Nat.le_of_ble_eq_true rfl⟩ rfl rfl rfl rfl rfl rfl (Nat.le_of_ble_eq_true rfl) rfl rfl rfl rfl (by decide) (by decide) (by decide) rfl rfl rfl dX4_cellIsTaken_73 ?_
          refine j_aload_n (pc := 76) C 0 rfl dX4_cellIsTaken_76 ?_
          refine j_get (pc := 77) 0 4 4 C iw_X4_cellIsTaken_X4 rfl rfl (by decide) fl_X4_cellIsTaken_34 rfl rfl dX4_cellIsTaken_77 ?_
          refine j_iconst (pc := 80) 3 C (by decide) dX4_cellIsTaken_80 ?_
          refine j_icmp_eq (pc := 81) 91 C hf (by decide) dX4_cellIsTaken_81 (fun hf => ?_) (fun hf => ?_)
          · refine j_iconst (pc := 91) 1 C (by decide) dX4_cellIsTaken_91 ?_
            refine j_goto (pc := 92) 96 C (by decide) dX4_cellIsTaken_92 ?_
            obtain ⟨rfl, rfl, rfl, rfl, rfl, rfl, rfl, rfl, rfl, rfl, rfl⟩ := si11 hf
            exact j_zret (pc := 96) C (by decide) dX4_cellIsTaken_96
          · refine j_aload_n (pc := 84) C 0 rfl dX4_cellIsTaken_84 ?_
            obtain ⟨a_28, pLatestFault_29, hu, hf⟩ := ob2_some hf
            refine j_callV (pc := 85) (N := 8) (qr := 0) (ci := 4) [] [] [.ref p0] [.int a_28] [(p0, .inr (4, [.int pLength, .int pLatestFault_29, .ref pBytesA, .int pPlace_24, .int pToken_25, .int pFrom_26, .int pNumber_27, .int pPlanned])), (pBytesA, .inl (D.1 7, 160, .inl pBytes)), (r0, .inr (1, [.int rCells_19, .int rSigns, .int rHour, .int rStops, .int rWaste, .int rDone, .int rBridged, .ref rKindA, .ref rRoomA, .ref rChargeA, .ref rLeakA, .ref rPlanA])), (rKindA, .inl (D.1 7, 5, .inl rKind_20)), (rRoomA, .inl (D.1 7, 5, .inl rRoom_21)), (rChargeA, .inl (D.1 7, 5, .inl rCharge_22)), (rLeakA, .inl (D.1 7, 5, .inl rLeak_23)), (rPlanA, .inl (D.1 7, 16, .inl rPlan))] [(r0, .inr (1, [.int rCells_19, .int rSigns, .int rHour, .int rStops, .int rWaste, .int rDone, .int rBridged, .ref rKindA, .ref rRoomA, .ref rChargeA, .ref rLeakA, .ref rPlanA])), (rKindA, .inl (D.1 7, 5, .inl rKind_20)), (rRoomA, .inl (D.1 7, 5, .inl rRoom_21)), (rChargeA, .inl (D.1 7, 5, .inl rCharge_22)), (rLeakA, .inl (D.1 7, 5, .inl rLeak_23)), (rPlanA, .inl (D.1 7, 16, .inl rPlan))] [p0, pBytesA, r0, rKindA, rRoomA, rChargeA, rLeakA, rPlanA] [0, 1] [2, 3, 4, 5, 6, 7] C (c_X4_misplaced D p0 pBytesA pLength pLatestFault_14 pPlace_24 pToken_25 pFrom_26 pNumber_27 pPlanned pBytes a_28 pLatestFault_29 hu) k_X4_misplaced gX4_cellIsTaken_X4_misplaced ⟨rfl, rfl⟩ ⟨Nat.le_of_ble_eq_true rfl, Nat.le_of_ble_eq_true rfl⟩ rfl rfl rfl rfl rfl rfl (Nat.le_of_ble_eq_true rfl) rfl rfl rfl rfl (by decide) (by decide) (by decide) rfl rfl rfl dX4_cellIsTaken_85 ?_
            refine j_if_eq (pc := 88) 95 C hf (by decide) dX4_cellIsTaken_88 (fun hf => ?_) (fun hf => ?_)
            · refine j_iconst (pc := 95) 0 C (by decide) dX4_cellIsTaken_95 ?_
              obtain ⟨rfl, rfl, rfl, rfl, rfl, rfl, rfl, rfl, rfl, rfl, rfl⟩ := si11 hf
              exact j_zret (pc := 96) C (by decide) dX4_cellIsTaken_96
            · refine j_iconst (pc := 91) 1 C (by decide) dX4_cellIsTaken_91 ?_
              refine j_goto (pc := 92) 96 C (by decide) dX4_cellIsTaken_92 ?_
              obtain ⟨rfl, rfl, rfl, rfl, rfl, rfl, rfl, rfl, rfl, rfl, rfl⟩ := si11 hf
              exact j_zret (pc := 96) C (by decide) dX4_cellIsTaken_96
        · refine j_iconst (pc := 58) 0 C (by decide) dX4_cellIsTaken_58 ?_
          obtain ⟨rfl, rfl, rfl, rfl, rfl, rfl, rfl, rfl, rfl, rfl, rfl⟩ := si11 hf
          exact j_zret (pc := 59) C (by decide) dX4_cellIsTaken_59
      · refine j_iconst (pc := 40) 0 C (by decide) dX4_cellIsTaken_40 ?_
        obtain ⟨rfl, rfl, rfl, rfl, rfl, rfl, rfl, rfl, rfl, rfl, rfl⟩ := si11 hf
        exact j_zret (pc := 41) C (by decide) dX4_cellIsTaken_41
    · refine j_iconst (pc := 24) 0 C (by decide) dX4_cellIsTaken_24 ?_
      obtain ⟨rfl, rfl, rfl, rfl, rfl, rfl, rfl, rfl, rfl, rfl, rfl⟩ := si11 hf
      exact j_zret (pc := 25) C (by decide) dX4_cellIsTaken_25
  · refine j_aload_n (pc := 8) C 0 rfl dX4_cellIsTaken_8 ?_
    refine j_iconst (pc := 9) 5 C (by decide) dX4_cellIsTaken_9 ?_
    obtain ⟨a_30, pLatestFault_31, hu, hf⟩ := ob2_some hf
    refine j_callV (pc := 10) (N := 8) (qr := 0) (ci := 4) [.int 5] [] [.int 5, .ref p0] [.int a_30] [(p0, .inr (4, [.int pLength, .int pLatestFault_31, .ref pBytesA, .int pPlace, .int pToken, .int pFrom, .int pNumber, .int pPlanned])), (pBytesA, .inl (D.1 7, 160, .inl pBytes)), (r0, .inr (1, [.int rCells, .int rSigns, .int rHour, .int rStops, .int rWaste, .int rDone, .int rBridged, .ref rKindA, .ref rRoomA, .ref rChargeA, .ref rLeakA, .ref rPlanA])), (rKindA, .inl (D.1 7, 5, .inl rKind)), (rRoomA, .inl (D.1 7, 5, .inl rRoom)), (rChargeA, .inl (D.1 7, 5, .inl rCharge)), (rLeakA, .inl (D.1 7, 5, .inl rLeak)), (rPlanA, .inl (D.1 7, 16, .inl rPlan))] [(r0, .inr (1, [.int rCells, .int rSigns, .int rHour, .int rStops, .int rWaste, .int rDone, .int rBridged, .ref rKindA, .ref rRoomA, .ref rChargeA, .ref rLeakA, .ref rPlanA])), (rKindA, .inl (D.1 7, 5, .inl rKind)), (rRoomA, .inl (D.1 7, 5, .inl rRoom)), (rChargeA, .inl (D.1 7, 5, .inl rCharge)), (rLeakA, .inl (D.1 7, 5, .inl rLeak)), (rPlanA, .inl (D.1 7, 16, .inl rPlan))] [p0, pBytesA, r0, rKindA, rRoomA, rChargeA, rLeakA, rPlanA] [0, 1] [2, 3, 4, 5, 6, 7] C (c_X4_refused D p0 pBytesA 5 pLength pLatestFault pPlace pToken pFrom pNumber pPlanned pBytes a_30 pLatestFault_31 hu) k_X4_refused gX4_cellIsTaken_X4_refused ⟨rfl, rfl⟩ ⟨Nat.le_of_ble_eq_true rfl, Nat.le_of_ble_eq_true rfl⟩ rfl rfl rfl rfl rfl rfl (Nat.le_of_ble_eq_true rfl) rfl rfl rfl rfl (by decide) (by decide) (by decide) rfl rfl rfl dX4_cellIsTaken_10 ?_
    obtain ⟨hz, hf⟩ := cz_some hf
    obtain ⟨rfl, rfl, rfl, rfl, rfl, rfl, rfl, rfl, rfl, rfl, rfl⟩ := si11 hf
    exact j_zret (pc := 13) C hz dX4_cellIsTaken_13
theorem k_X4_cellIsTaken : CK yX4_cellIsTaken wsX4_cellIsTaken cX4_cellIsTaken 5 (some .boolean) 2 := ⟨rfl, by decide +kernel⟩
theorem c_X4_cellIsTaken (D : va_G) (p0 pBytesA r0 rKindA rRoomA rChargeA rLeakA rPlanA : Nat) (v2 : Int32) (pLength : Int32) (pLatestFault : Int32) (pPlace : Int32) (pToken : Int32) (pFrom : Int32) (pNumber : Int32) (pPlanned : Int32) (pBytes : Nat → Int32) (rCells : Int32) (rSigns : Int32) (rHour : Int32) (rStops : Int32) (rWaste : Int32) (rDone : Int32) (rBridged : Int32) (rKind : Nat → Int32) (rRoom : Nat → Int32) (rCharge : Nat → Int32) (rLeak : Nat → Int32) (rPlan : Nat → Int32) (oR : Int32) (oPLatestFault : Int32) (oPPlace : Int32) (oPToken : Int32) (oPFrom : Int32) (oPNumber : Int32) (oRCells : Int32) (oRKind : Nat → Int32) (oRRoom : Nat → Int32) (oRCharge : Nat → Int32) (oRLeak : Nat → Int32) (hf : f_X4_cellIsTaken v2 pLength pLatestFault pPlace pToken pFrom pNumber pBytes rCells rKind rRoom rCharge rLeak = some (oR, oPLatestFault, oPPlace, oPToken, oPFrom, oPNumber, oRCells, oRKind, oRRoom, oRCharge, oRLeak)) : ∀ l, MW l yX4_cellIsTaken wsX4_cellIsTaken ({ frames := 3, cells := 0, slots := 0, locals := 65 } : Room) D [.ref p0, .ref r0, .int v2] [(p0, .inr (4, [.int pLength, .int pLatestFault, .ref pBytesA, .int pPlace, .int pToken, .int pFrom, .int pNumber, .int pPlanned])), (pBytesA, .inl (D.1 7, 160, .inl pBytes)), (r0, .inr (1, [.int rCells, .int rSigns, .int rHour, .int rStops, .int rWaste, .int rDone, .int rBridged, .ref rKindA, .ref rRoomA, .ref rChargeA, .ref rLeakA, .ref rPlanA])), (rKindA, .inl (D.1 7, 5, .inl rKind)), (rRoomA, .inl (D.1 7, 5, .inl rRoom)), (rChargeA, .inl (D.1 7, 5, .inl rCharge)), (rLeakA, .inl (D.1 7, 5, .inl rLeak)), (rPlanA, .inl (D.1 7, 16, .inl rPlan))] (some (.int oR)) [(p0, .inr (4, [.int pLength, .int oPLatestFault, .ref pBytesA, .int oPPlace, .int oPToken, .int oPFrom, .int oPNumber, .int pPlanned])), (pBytesA, .inl (D.1 7, 160, .inl pBytes)), (r0, .inr (1, [.int oRCells, .int rSigns, .int rHour, .int rStops, .int rWaste, .int rDone, .int rBridged, .ref rKindA, .ref rRoomA, .ref rChargeA, .ref rLeakA, .ref rPlanA])), (rKindA, .inl (D.1 7, 5, .inl oRKind)), (rRoomA, .inl (D.1 7, 5, .inl oRRoom)), (rChargeA, .inl (D.1 7, 5, .inl oRCharge)), (rLeakA, .inl (D.1 7, 5, .inl oRLeak)), (rPlanA, .inl (D.1 7, 16, .inl rPlan))] := j_met (cc := cX4_cellIsTaken) (nl := 5) (rt := (some .boolean)) (own := RX4) (lv := [(0, .ref p0), (1, .ref r0), (2, .int v2)]) (by decide +kernel) rfl rfl rfl (Nat.le_of_ble_eq_true rfl) (fun G C => t_X4_cellIsTaken_0 C hf)

-- X4_planIsTaken
theorem fl_X4_planIsTaken_24 : Cond.fieldLink RX4 24 "CellsInRow$Tape" "planned" "Z" ∈ wsX4_planIsTaken := by decide +kernel
theorem iw_X4_planIsTaken_X4 : ∀ w ∈ wsX40, w ∈ wsX4_planIsTaken := by decide +kernel
theorem fl_X4_planIsTaken_34 : Cond.fieldLink RX4 34 "CellsInRow$Tape" "token" "I" ∈ wsX4_planIsTaken := by decide +kernel
theorem fl_X4_planIsTaken_76 : Cond.fieldLink RX4 76 "CellsInRow$Tape" "number" "I" ∈ wsX4_planIsTaken := by decide +kernel
set_option maxHeartbeats 4000000 in
set_option maxRecDepth 100000 in
theorem t_X4_planIsTaken_44 {G : jX} {D : va_G} {p0 pBytesA r0 rKindA rRoomA rChargeA rLeakA rPlanA : Nat} {v2 : Int32} {pLength : Int32} {pLatestFault : Int32} {pPlace : Int32} {pToken : Int32} {pFrom : Int32} {pNumber : Int32} {pPlanned : Int32} {pBytes : Nat → Int32} {rCells : Int32} {rSigns : Int32} {rHour : Int32} {rStops : Int32} {rWaste : Int32} {rDone : Int32} {rBridged : Int32} {rKind : Nat → Int32} {rRoom : Nat → Int32} {rCharge : Nat → Int32} {rLeak : Nat → Int32} {rPlan : Nat → Int32} {K20 : Int32 → Int32 → Int32 → Int32 → Int32 → Int32 → (Nat → Int32) → Option (Int32 × Int32 × Int32 × Int32 × Int32 × Int32 × Int32 × Int32 × (Nat → Int32))} {oR : Int32} {oPLatestFault : Int32} {oPPlace : Int32} {oPToken : Int32} {oPFrom : Int32} {oPNumber : Int32} {oPPlanned : Int32} {oRSigns : Int32} {oRPlan : Nat → Int32} (C : KC G D cX4_planIsTaken RX4 wsX4_planIsTaken ({ frames := 2, cells := 0, slots := 0, locals := 43 } : Room) 3 (some .boolean) (some (.int oR)) [(p0, .inr (4, [.int pLength, .int oPLatestFault, .ref pBytesA, .int oPPlace, .int oPToken, .int oPFrom, .int oPNumber, .int oPPlanned])), (pBytesA, .inl (D.1 7, 160, .inl pBytes)), (r0, .inr (1, [.int rCells, .int oRSigns, .int rHour, .int rStops, .int rWaste, .int rDone, .int rBridged, .ref rKindA, .ref rRoomA, .ref rChargeA, .ref rLeakA, .ref rPlanA])), (rKindA, .inl (D.1 7, 5, .inl rKind)), (rRoomA, .inl (D.1 7, 5, .inl rRoom)), (rChargeA, .inl (D.1 7, 5, .inl rCharge)), (rLeakA, .inl (D.1 7, 5, .inl rLeak)), (rPlanA, .inl (D.1 7, 16, .inl oRPlan))]) (hK20 : ∀ (v2x : Int32) (pPlacex : Int32) (pTokenx : Int32) (pFromx : Int32) (pNumberx : Int32) (rSignsx : Int32) (rPlanx : Nat → Int32), K20 v2x pPlacex pTokenx pFromx pNumberx rSignsx rPlanx = some (oR, oPLatestFault, oPPlace, oPToken, oPFrom, oPNumber, oPPlanned, oRSigns, oRPlan) → JW G D 20 [(0, .ref p0), (1, .ref r0), (2, .int v2x)] [] [(p0, .inr (4, [.int pLength, .int pLatestFault, .ref pBytesA, .int pPlacex, .int pTokenx, .int pFromx, .int pNumberx, .int pPlanned])), (pBytesA, .inl (D.1 7, 160, .inl pBytes)), (r0, .inr (1, [.int rCells, .int rSignsx, .int rHour, .int rStops, .int rWaste, .int rDone, .int rBridged, .ref rKindA, .ref rRoomA, .ref rChargeA, .ref rLeakA, .ref rPlanA])), (rKindA, .inl (D.1 7, 5, .inl rKind)), (rRoomA, .inl (D.1 7, 5, .inl rRoom)), (rChargeA, .inl (D.1 7, 5, .inl rCharge)), (rLeakA, .inl (D.1 7, 5, .inl rLeak)), (rPlanA, .inl (D.1 7, 16, .inl rPlanx))]) (hf : f_X4_planIsTaken_44 K20 v2 pLength pLatestFault pPlace pToken pFrom pNumber pPlanned pBytes rSigns rPlan = some (oR, oPLatestFault, oPPlace, oPToken, oPFrom, oPNumber, oPPlanned, oRSigns, oRPlan)) : JW G D 44 [(0, .ref p0), (1, .ref r0), (2, .int v2)] [] [(p0, .inr (4, [.int pLength, .int pLatestFault, .ref pBytesA, .int pPlace, .int pToken, .int pFrom, .int pNumber, .int pPlanned])), (pBytesA, .inl (D.1 7, 160, .inl pBytes)), (r0, .inr (1, [.int rCells, .int rSigns, .int rHour, .int rStops, .int rWaste, .int rDone, .int rBridged, .ref rKindA, .ref rRoomA, .ref rChargeA, .ref rLeakA, .ref rPlanA])), (rKindA, .inl (D.1 7, 5, .inl rKind)), (rRoomA, .inl (D.1 7, 5, .inl rRoom)), (rChargeA, .inl (D.1 7, 5, .inl rCharge)), (rLeakA, .inl (D.1 7, 5, .inl rLeak)), (rPlanA, .inl (D.1 7, 16, .inl rPlan))] := by
  unfold f_X4_planIsTaken_44 at hf
  refine j_aload_n (pc := 44) C 0 rfl dX4_planIsTaken_44 ?_
  refine j_get (pc := 45) 0 4 4 C iw_X4_planIsTaken_X4 rfl rfl (by decide) fl_X4_planIsTaken_34 rfl rfl dX4_planIsTaken_45 ?_
  refine j_iconst (pc := 48) 2 C (by decide) dX4_planIsTaken_48 ?_
  refine j_icmp_eq (pc := 49) 57 C hf (by decide) dX4_planIsTaken_49 (fun hf => ?_) (fun hf => ?_)
  · refine j_iload_n (pc := 57) C 2 rfl dX4_planIsTaken_57 ?_
    refine j_bipush (pc := 58) 16 C (by decide) dX4_planIsTaken_58 ?_
    refine j_icmp_ne (pc := 60) 69 C hf (by decide) dX4_planIsTaken_60 (fun hf => ?_) (fun hf => ?_)
    · refine j_aload_n (pc := 69) C 0 rfl dX4_planIsTaken_69 ?_
      refine j_get (pc := 70) 0 4 6 C iw_X4_planIsTaken_X4 rfl rfl (by decide) fl_X4_planIsTaken_76 rfl rfl dX4_planIsTaken_70 ?_
      refine j_bipush (pc := 73) 18 C (by decide) dX4_planIsTaken_73 ?_
      refine j_icmp_le (pc := 75) 84 C hf (by decide) dX4_planIsTaken_75 (fun hf => ?_) (fun hf => ?_)
      · refine j_aload_n (pc := 84) C 1 rfl dX4_planIsTaken_84 ?_
        refine j_aload_n (pc := 85) C 0 rfl dX4_planIsTaken_85 ?_
        refine j_get (pc := 86) 0 4 6 C iw_X4_planIsTaken_X4 rfl rfl (by decide) fl_X4_planIsTaken_76 rfl rfl dX4_planIsTaken_86 ?_
        obtain ⟨rSigns_7, rPlan_8, hu, hf⟩ := ob2_some hf
        refine j_callV (pc := 89) (N := 8) (qr := 2) (ci := 1) [.int pNumber] [] [.int pNumber, .ref r0] [] [(p0, .inr (4, [.int pLength, .int pLatestFault, .ref pBytesA, .int pPlace, .int pToken, .int pFrom, .int pNumber, .int pPlanned])), (pBytesA, .inl (D.1 7, 160, .inl pBytes)), (r0, .inr (1, [.int rCells, .int rSigns_7, .int rHour, .int rStops, .int rWaste, .int rDone, .int rBridged, .ref rKindA, .ref rRoomA, .ref rChargeA, .ref rLeakA, .ref rPlanA])), (rKindA, .inl (D.1 7, 5, .inl rKind)), (rRoomA, .inl (D.1 7, 5, .inl rRoom)), (rChargeA, .inl (D.1 7, 5, .inl rCharge)), (rLeakA, .inl (D.1 7, 5, .inl rLeak)), (rPlanA, .inl (D.1 7, 16, .inl rPlan_8))] [(p0, .inr (4, [.int pLength, .int pLatestFault, .ref pBytesA, .int pPlace, .int pToken, .int pFrom, .int pNumber, .int pPlanned])), (pBytesA, .inl (D.1 7, 160, .inl pBytes))] [p0, pBytesA, r0, rKindA, rRoomA, rChargeA, rLeakA, rPlanA] [2, 3, 4, 5, 6, 7] [0, 1] C (c_X1_appendSign D r0 rKindA rRoomA rChargeA rLeakA rPlanA pNumber rCells rSigns rHour rStops rWaste rDone rBridged rKind rRoom rCharge rLeak rPlan rSigns_7 rPlan_8 hu) k_X1_appendSign gX4_planIsTaken_X1_appendSign ⟨rfl, rfl⟩ ⟨Nat.le_of_ble_eq_true rfl, Nat.le_of_ble_eq_true rfl⟩ rfl rfl rfl rfl rfl rfl (Nat.le_of_ble_eq_true rfl) rfl rfl rfl rfl (by decide) (by decide) (by decide) rfl rfl rfl dX4_planIsTaken_89 ?_
        refine j_iinc (pc := 92) (v2 + 1) 2 2 [(0, .ref p0), (1, .ref r0), (2, .int (v2 + 1))] [1, 2, 0] C rfl (by rfl) (by decide) rfl dX4_planIsTaken_92 ?_
        refine j_goto (pc := 95) 20 C (by decide) dX4_planIsTaken_95 ?_
        exact hK20 _ _ _ _ _ _ _ hf
      · refine j_aload_n (pc := 78) C 0 rfl dX4_planIsTaken_78 ?_
        refine j_iconst (pc := 79) 3 C (by decide) dX4_planIsTaken_79 ?_
        obtain ⟨a_9, pLatestFault_10, hu, hf⟩ := ob2_some hf
        refine j_callV (pc := 80) (N := 8) (qr := 0) (ci := 4) [.int 3] [] [.int 3, .ref p0] [.int a_9] [(p0, .inr (4, [.int pLength, .int pLatestFault_10, .ref pBytesA, .int pPlace, .int pToken, .int pFrom, .int pNumber, .int pPlanned])), (pBytesA, .inl (D.1 7, 160, .inl pBytes)), (r0, .inr (1, [.int rCells, .int rSigns, .int rHour, .int rStops, .int rWaste, .int rDone, .int rBridged, .ref rKindA, .ref rRoomA, .ref rChargeA, .ref rLeakA, .ref rPlanA])), (rKindA, .inl (D.1 7, 5, .inl rKind)), (rRoomA, .inl (D.1 7, 5, .inl rRoom)), (rChargeA, .inl (D.1 7, 5, .inl rCharge)), (rLeakA, .inl (D.1 7, 5, .inl rLeak)), (rPlanA, .inl (D.1 7, 16, .inl rPlan))] [(r0, .inr (1, [.int rCells, .int rSigns, .int rHour, .int rStops, .int rWaste, .int rDone, .int rBridged, .ref rKindA, .ref rRoomA, .ref rChargeA, .ref rLeakA, .ref rPlanA])), (rKindA, .inl (D.1 7, 5, .inl rKind)), (rRoomA, .inl (D.1 7, 5, .inl rRoom)), (rChargeA, .inl (D.1 7, 5, .inl rCharge)), (rLeakA, .inl (D.1 7, 5, .inl rLeak)), (rPlanA, .inl (D.1 7, 16, .inl rPlan))] [p0, pBytesA, r0, rKindA, rRoomA, rChargeA, rLeakA, rPlanA] [0, 1] [2, 3, 4, 5, 6, 7] C (c_X4_refused D p0 pBytesA 3 pLength pLatestFault pPlace pToken pFrom pNumber pPlanned pBytes a_9 pLatestFault_10 hu) k_X4_refused gX4_planIsTaken_X4_refused ⟨rfl, rfl⟩ ⟨Nat.le_of_ble_eq_true rfl, Nat.le_of_ble_eq_true rfl⟩ rfl rfl rfl rfl rfl rfl (Nat.le_of_ble_eq_true rfl) rfl rfl rfl rfl (by decide) (by decide) (by decide) rfl rfl rfl dX4_planIsTaken_80 ?_
        obtain ⟨hz, hf⟩ := cz_some hf
        obtain ⟨rfl, rfl, rfl, rfl, rfl, rfl, rfl, rfl, rfl⟩ := si9 hf
        exact j_zret (pc := 83) C hz dX4_planIsTaken_83
    · refine j_aload_n (pc := 63) C 0 rfl dX4_planIsTaken_63 ?_
      refine j_iconst (pc := 64) 5 C (by decide) dX4_planIsTaken_64 ?_
      obtain ⟨a_11, pLatestFault_12, hu, hf⟩ := ob2_some hf
      refine j_callV (pc := 65) (N := 8) (qr := 0) (ci := 4) [.int 5] [] [.int 5, .ref p0] [.int a_11] [(p0, .inr (4, [.int pLength, .int pLatestFault_12, .ref pBytesA, .int pPlace, .int pToken, .int pFrom, .int pNumber, .int pPlanned])), (pBytesA, .inl (D.1 7, 160, .inl pBytes)), (r0, .inr (1, [.int rCells, .int rSigns, .int rHour, .int rStops, .int rWaste, .int rDone, .int rBridged, .ref rKindA, .ref rRoomA, .ref rChargeA, .ref rLeakA, .ref rPlanA])), (rKindA, .inl (D.1 7, 5, .inl rKind)), (rRoomA, .inl (D.1 7, 5, .inl rRoom)), (rChargeA, .inl (D.1 7, 5, .inl rCharge)), (rLeakA, .inl (D.1 7, 5, .inl rLeak)), (rPlanA, .inl (D.1 7, 16, .inl rPlan))] [(r0, .inr (1, [.int rCells, .int rSigns, .int rHour, .int rStops, .int rWaste, .int rDone, .int rBridged, .ref rKindA, .ref rRoomA, .ref rChargeA, .ref rLeakA, .ref rPlanA])), (rKindA, .inl (D.1 7, 5, .inl rKind)), (rRoomA, .inl (D.1 7, 5, .inl rRoom)), (rChargeA, .inl (D.1 7, 5, .inl rCharge)), (rLeakA, .inl (D.1 7, 5, .inl rLeak)), (rPlanA, .inl (D.1 7, 16, .inl rPlan))] [p0, pBytesA, r0, rKindA, rRoomA, rChargeA, rLeakA, rPlanA] [0, 1] [2, 3, 4, 5, 6, 7] C (c_X4_refused D p0 pBytesA 5 pLength pLatestFault pPlace pToken pFrom pNumber pPlanned pBytes a_11 pLatestFault_12 hu) k_X4_refused gX4_planIsTaken_X4_refused ⟨rfl, rfl⟩ ⟨Nat.le_of_ble_eq_true rfl, Nat.le_of_ble_eq_true rfl⟩ rfl rfl rfl rfl rfl rfl (Nat.le_of_ble_eq_true rfl) rfl rfl rfl rfl (by decide) (by decide) (by decide) rfl rfl rfl dX4_planIsTaken_65 ?_
      obtain ⟨hz, hf⟩ := cz_some hf
      obtain ⟨rfl, rfl, rfl, rfl, rfl, rfl, rfl, rfl, rfl⟩ := si9 hf
      exact j_zret (pc := 68) C hz dX4_planIsTaken_68
  · refine j_aload_n (pc := 52) C 0 rfl dX4_planIsTaken_52 ?_
    obtain ⟨a_13, pLatestFault_14, hu, hf⟩ := ob2_some hf
    refine j_callV (pc := 53) (N := 8) (qr := 0) (ci := 4) [] [] [.ref p0] [.int a_13] [(p0, .inr (4, [.int pLength, .int pLatestFault_14, .ref pBytesA, .int pPlace, .int pToken, .int pFrom, .int pNumber, .int pPlanned])), (pBytesA, .inl (D.1 7, 160, .inl pBytes)), (r0, .inr (1, [.int rCells, .int rSigns, .int rHour, .int rStops, .int rWaste, .int rDone, .int rBridged, .ref rKindA, .ref rRoomA, .ref rChargeA, .ref rLeakA, .ref rPlanA])), (rKindA, .inl (D.1 7, 5, .inl rKind)), (rRoomA, .inl (D.1 7, 5, .inl rRoom)), (rChargeA, .inl (D.1 7, 5, .inl rCharge)), (rLeakA, .inl (D.1 7, 5, .inl rLeak)), (rPlanA, .inl (D.1 7, 16, .inl rPlan))] [(r0, .inr (1, [.int rCells, .int rSigns, .int rHour, .int rStops, .int rWaste, .int rDone, .int rBridged, .ref rKindA, .ref rRoomA, .ref rChargeA, .ref rLeakA, .ref rPlanA])), (rKindA, .inl (D.1 7, 5, .inl rKind)), (rRoomA, .inl (D.1 7, 5, .inl rRoom)), (rChargeA, .inl (D.1 7, 5, .inl rCharge)), (rLeakA, .inl (D.1 7, 5, .inl rLeak)), (rPlanA, .inl (D.1 7, 16, .inl rPlan))] [p0, pBytesA, r0, rKindA, rRoomA, rChargeA, rLeakA, rPlanA] [0, 1] [2, 3, 4, 5, 6, 7] C (c_X4_misplaced D p0 pBytesA pLength pLatestFault pPlace pToken pFrom pNumber pPlanned pBytes a_13 pLatestFault_14 hu) k_X4_misplaced gX4_planIsTaken_X4_misplaced ⟨rfl, rfl⟩ ⟨Nat.le_of_ble_eq_true rfl, Nat.le_of_ble_eq_true rfl⟩ rfl rfl rfl rfl rfl rfl (Nat.le_of_ble_eq_true rfl) rfl rfl rfl rfl (by decide) (by decide) (by decide) rfl rfl rfl dX4_planIsTaken_53 ?_
    obtain ⟨hz, hf⟩ := cz_some hf
    obtain ⟨rfl, rfl, rfl, rfl, rfl, rfl, rfl, rfl, rfl⟩ := si9 hf
    exact j_zret (pc := 56) C hz dX4_planIsTaken_56
set_option maxHeartbeats 4000000 in
set_option maxRecDepth 100000 in
theorem t_X4_planIsTaken_20 {G : jX} {D : va_G} {p0 pBytesA r0 rKindA rRoomA rChargeA rLeakA rPlanA : Nat} {pLength : Int32} {pLatestFault : Int32} {pPlanned : Int32} {pBytes : Nat → Int32} {rCells : Int32} {rHour : Int32} {rStops : Int32} {rWaste : Int32} {rDone : Int32} {rBridged : Int32} {rKind : Nat → Int32} {rRoom : Nat → Int32} {rCharge : Nat → Int32} {rLeak : Nat → Int32} {oR : Int32} {oPLatestFault : Int32} {oPPlace : Int32} {oPToken : Int32} {oPFrom : Int32} {oPNumber : Int32} {oPPlanned : Int32} {oRSigns : Int32} {oRPlan : Nat → Int32} (C : KC G D cX4_planIsTaken RX4 wsX4_planIsTaken ({ frames := 2, cells := 0, slots := 0, locals := 43 } : Room) 3 (some .boolean) (some (.int oR)) [(p0, .inr (4, [.int pLength, .int oPLatestFault, .ref pBytesA, .int oPPlace, .int oPToken, .int oPFrom, .int oPNumber, .int oPPlanned])), (pBytesA, .inl (D.1 7, 160, .inl pBytes)), (r0, .inr (1, [.int rCells, .int oRSigns, .int rHour, .int rStops, .int rWaste, .int rDone, .int rBridged, .ref rKindA, .ref rRoomA, .ref rChargeA, .ref rLeakA, .ref rPlanA])), (rKindA, .inl (D.1 7, 5, .inl rKind)), (rRoomA, .inl (D.1 7, 5, .inl rRoom)), (rChargeA, .inl (D.1 7, 5, .inl rCharge)), (rLeakA, .inl (D.1 7, 5, .inl rLeak)), (rPlanA, .inl (D.1 7, 16, .inl oRPlan))]) : ∀ (n : Nat) (v2 : Int32) (pPlace : Int32) (pToken : Int32) (pFrom : Int32) (pNumber : Int32) (rSigns : Int32) (rPlan : Nat → Int32), f_X4_planIsTaken_20 pLength pLatestFault pPlanned pBytes n v2 pPlace pToken pFrom pNumber rSigns rPlan = some (oR, oPLatestFault, oPPlace, oPToken, oPFrom, oPNumber, oPPlanned, oRSigns, oRPlan) → JW G D 20 [(0, .ref p0), (1, .ref r0), (2, .int v2)] [] [(p0, .inr (4, [.int pLength, .int pLatestFault, .ref pBytesA, .int pPlace, .int pToken, .int pFrom, .int pNumber, .int pPlanned])), (pBytesA, .inl (D.1 7, 160, .inl pBytes)), (r0, .inr (1, [.int rCells, .int rSigns, .int rHour, .int rStops, .int rWaste, .int rDone, .int rBridged, .ref rKindA, .ref rRoomA, .ref rChargeA, .ref rLeakA, .ref rPlanA])), (rKindA, .inl (D.1 7, 5, .inl rKind)), (rRoomA, .inl (D.1 7, 5, .inl rRoom)), (rChargeA, .inl (D.1 7, 5, .inl rCharge)), (rLeakA, .inl (D.1 7, 5, .inl rLeak)), (rPlanA, .inl (D.1 7, 16, .inl rPlan))] := by
  intro n
  induction n with
  | zero => intro _ _ _ _ _ _ _ hf; rw [f_X4_planIsTaken_20] at hf; cases hf
  | succ n ih =>
    intro v2 pPlace pToken pFrom pNumber rSigns rPlan hf
    rw [f_X4_planIsTaken_20] at hf
    refine j_iload_n (pc := 20) C 2 rfl dX4_planIsTaken_20 ?_
    refine j_bipush (pc := 21) 16 C (by decide) dX4_planIsTaken_21 ?_
    refine j_icmp_gt (pc := 23) 98 C hf (by decide) dX4_planIsTaken_23 (fun hf => ?_) (fun hf => ?_)
    · refine j_aload_n (pc := 98) C 0 rfl dX4_planIsTaken_98 ?_
      obtain ⟨a_1, pLatestFault_2, hu, hf⟩ := ob2_some hf
      refine j_callV (pc := 99) (N := 8) (qr := 0) (ci := 4) [] [] [.ref p0] [.int a_1] [(p0, .inr (4, [.int pLength, .int pLatestFault_2, .ref pBytesA, .int pPlace, .int pToken, .int pFrom, .int pNumber, .int pPlanned])), (pBytesA, .inl (D.1 7, 160, .inl pBytes)), (r0, .inr (1, [.int rCells, .int rSigns, .int rHour, .int rStops, .int rWaste, .int rDone, .int rBridged, .ref rKindA, .ref rRoomA, .ref rChargeA, .ref rLeakA, .ref rPlanA])), (rKindA, .inl (D.1 7, 5, .inl rKind)), (rRoomA, .inl (D.1 7, 5, .inl rRoom)), (rChargeA, .inl (D.1 7, 5, .inl rCharge)), (rLeakA, .inl (D.1 7, 5, .inl rLeak)), (rPlanA, .inl (D.1 7, 16, .inl rPlan))] [(r0, .inr (1, [.int rCells, .int rSigns, .int rHour, .int rStops, .int rWaste, .int rDone, .int rBridged, .ref rKindA, .ref rRoomA, .ref rChargeA, .ref rLeakA, .ref rPlanA])), (rKindA, .inl (D.1 7, 5, .inl rKind)), (rRoomA, .inl (D.1 7, 5, .inl rRoom)), (rChargeA, .inl (D.1 7, 5, .inl rCharge)), (rLeakA, .inl (D.1 7, 5, .inl rLeak)), (rPlanA, .inl (D.1 7, 16, .inl rPlan))] [p0, pBytesA, r0, rKindA, rRoomA, rChargeA, rLeakA, rPlanA] [0, 1] [2, 3, 4, 5, 6, 7] C (c_X4_misplaced D p0 pBytesA pLength pLatestFault pPlace pToken pFrom pNumber pPlanned pBytes a_1 pLatestFault_2 hu) k_X4_misplaced gX4_planIsTaken_X4_misplaced ⟨rfl, rfl⟩ ⟨Nat.le_of_ble_eq_true rfl, Nat.le_of_ble_eq_true rfl⟩ rfl rfl rfl rfl rfl rfl (Nat.le_of_ble_eq_true rfl) rfl rfl rfl rfl (by decide) (by decide) (by decide) rfl rfl rfl dX4_planIsTaken_99 ?_
      obtain ⟨hz, hf⟩ := cz_some hf
      obtain ⟨rfl, rfl, rfl, rfl, rfl, rfl, rfl, rfl, rfl⟩ := si9 hf
      exact j_zret (pc := 102) C hz dX4_planIsTaken_102
    · refine j_aload_n (pc := 26) C 0 rfl dX4_planIsTaken_26 ?_
      obtain ⟨pPlace_3, pToken_4, pFrom_5, pNumber_6, hu, hf⟩ := ob4_some hf
      refine j_callV (pc := 27) (N := 8) (qr := 0) (ci := 4) [] [] [.ref p0] [] [(p0, .inr (4, [.int pLength, .int pLatestFault, .ref pBytesA, .int pPlace_3, .int pToken_4, .int pFrom_5, .int pNumber_6, .int pPlanned])), (pBytesA, .inl (D.1 7, 160, .inl pBytes)), (r0, .inr (1, [.int rCells, .int rSigns, .int rHour, .int rStops, .int rWaste, .int rDone, .int rBridged, .ref rKindA, .ref rRoomA, .ref rChargeA, .ref rLeakA, .ref rPlanA])), (rKindA, .inl (D.1 7, 5, .inl rKind)), (rRoomA, .inl (D.1 7, 5, .inl rRoom)), (rChargeA, .inl (D.1 7, 5, .inl rCharge)), (rLeakA, .inl (D.1 7, 5, .inl rLeak)), (rPlanA, .inl (D.1 7, 16, .inl rPlan))] [(r0, .inr (1, [.int rCells, .int rSigns, .int rHour, .int rStops, .int rWaste, .int rDone, .int rBridged, .ref rKindA, .ref rRoomA, .ref rChargeA, .ref rLeakA, .ref rPlanA])), (rKindA, .inl (D.1 7, 5, .inl rKind)), (rRoomA, .inl (D.1 7, 5, .inl rRoom)), (rChargeA, .inl (D.1 7, 5, .inl rCharge)), (rLeakA, .inl (D.1 7, 5, .inl rLeak)), (rPlanA, .inl (D.1 7, 16, .inl rPlan))] [p0, pBytesA, r0, rKindA, rRoomA, rChargeA, rLeakA, rPlanA] [0, 1] [2, 3, 4, 5, 6, 7] C (c_X4_toNextToken D p0 pBytesA pLength pLatestFault pPlace pToken pFrom pNumber pPlanned pBytes pPlace_3 pToken_4 pFrom_5 pNumber_6 hu) k_X4_toNextToken gX4_planIsTaken_X4_toNextToken ⟨rfl, rfl⟩ ⟨Nat.le_of_ble_eq_true rfl, Nat.le_of_ble_eq_true rfl⟩ rfl rfl rfl rfl rfl rfl (Nat.le_of_ble_eq_true rfl) rfl rfl rfl rfl (by decide) (by decide) (by decide) rfl rfl rfl dX4_planIsTaken_27 ?_
      refine j_aload_n (pc := 30) C 0 rfl dX4_planIsTaken_30 ?_
      refine j_get (pc := 31) 0 4 4 C iw_X4_planIsTaken_X4 rfl rfl (by decide) fl_X4_planIsTaken_34 rfl rfl dX4_planIsTaken_31 ?_
      refine j_iconst (pc := 34) 3 C (by decide) dX4_planIsTaken_34 ?_
      refine j_icmp_ne (pc := 35) 44 C hf (by decide) dX4_planIsTaken_35 (fun hf => ?_) (fun hf => ?_)
      · exact t_X4_planIsTaken_44 C (fun _ _ _ _ _ _ _ h => ih _ _ _ _ _ _ _ h) hf
      · refine j_iload_n (pc := 38) C 2 rfl dX4_planIsTaken_38 ?_
        refine j_if_le (pc := 39) 44 C hf (by decide) dX4_planIsTaken_39 (fun hf => ?_) (fun hf => ?_)
        · exact t_X4_planIsTaken_44 C (fun _ _ _ _ _ _ _ h => ih _ _ _ _ _ _ _ h) hf
        · refine j_iconst (pc := 42) 1 C (by decide) dX4_planIsTaken_42 ?_
          obtain ⟨rfl, rfl, rfl, rfl, rfl, rfl, rfl, rfl, rfl⟩ := si9 hf
          exact j_zret (pc := 43) C (by decide) dX4_planIsTaken_43
set_option maxHeartbeats 4000000 in
set_option maxRecDepth 100000 in
theorem t_X4_planIsTaken_0 {G : jX} {D : va_G} {p0 pBytesA r0 rKindA rRoomA rChargeA rLeakA rPlanA : Nat} {pLength : Int32} {pLatestFault : Int32} {pPlace : Int32} {pToken : Int32} {pFrom : Int32} {pNumber : Int32} {pPlanned : Int32} {pBytes : Nat → Int32} {rCells : Int32} {rSigns : Int32} {rHour : Int32} {rStops : Int32} {rWaste : Int32} {rDone : Int32} {rBridged : Int32} {rKind : Nat → Int32} {rRoom : Nat → Int32} {rCharge : Nat → Int32} {rLeak : Nat → Int32} {rPlan : Nat → Int32} {oR : Int32} {oPLatestFault : Int32} {oPPlace : Int32} {oPToken : Int32} {oPFrom : Int32} {oPNumber : Int32} {oPPlanned : Int32} {oRSigns : Int32} {oRPlan : Nat → Int32} (C : KC G D cX4_planIsTaken RX4 wsX4_planIsTaken ({ frames := 2, cells := 0, slots := 0, locals := 43 } : Room) 3 (some .boolean) (some (.int oR)) [(p0, .inr (4, [.int pLength, .int oPLatestFault, .ref pBytesA, .int oPPlace, .int oPToken, .int oPFrom, .int oPNumber, .int oPPlanned])), (pBytesA, .inl (D.1 7, 160, .inl pBytes)), (r0, .inr (1, [.int rCells, .int oRSigns, .int rHour, .int rStops, .int rWaste, .int rDone, .int rBridged, .ref rKindA, .ref rRoomA, .ref rChargeA, .ref rLeakA, .ref rPlanA])), (rKindA, .inl (D.1 7, 5, .inl rKind)), (rRoomA, .inl (D.1 7, 5, .inl rRoom)), (rChargeA, .inl (D.1 7, 5, .inl rCharge)), (rLeakA, .inl (D.1 7, 5, .inl rLeak)), (rPlanA, .inl (D.1 7, 16, .inl oRPlan))]) (hf : f_X4_planIsTaken pLength pLatestFault pPlace pToken pFrom pNumber pPlanned pBytes rSigns rPlan = some (oR, oPLatestFault, oPPlace, oPToken, oPFrom, oPNumber, oPPlanned, oRSigns, oRPlan)) : JW G D 0 [(0, .ref p0), (1, .ref r0)] [] [(p0, .inr (4, [.int pLength, .int pLatestFault, .ref pBytesA, .int pPlace, .int pToken, .int pFrom, .int pNumber, .int pPlanned])), (pBytesA, .inl (D.1 7, 160, .inl pBytes)), (r0, .inr (1, [.int rCells, .int rSigns, .int rHour, .int rStops, .int rWaste, .int rDone, .int rBridged, .ref rKindA, .ref rRoomA, .ref rChargeA, .ref rLeakA, .ref rPlanA])), (rKindA, .inl (D.1 7, 5, .inl rKind)), (rRoomA, .inl (D.1 7, 5, .inl rRoom)), (rChargeA, .inl (D.1 7, 5, .inl rCharge)), (rLeakA, .inl (D.1 7, 5, .inl rLeak)), (rPlanA, .inl (D.1 7, 16, .inl rPlan))] := by
  unfold f_X4_planIsTaken at hf
  refine j_aload_n (pc := 0) C 0 rfl dX4_planIsTaken_0 ?_
  refine j_get (pc := 1) 0 4 7 C iw_X4_planIsTaken_X4 rfl rfl (by decide) fl_X4_planIsTaken_24 rfl rfl dX4_planIsTaken_1 ?_
  refine j_if_eq (pc := 4) 13 C hf (by decide) dX4_planIsTaken_4 (fun hf => ?_) (fun hf => ?_)
  · refine j_aload_n (pc := 13) C 0 rfl dX4_planIsTaken_13 ?_
    refine j_iconst (pc := 14) 1 C (by decide) dX4_planIsTaken_14 ?_
    have hz : (1 : Int32) = 0 ∨ (1 : Int32) = 1 := by decide
    refine j_put (pc := 15) (ty := .boolean) 0 4 7 [(p0, .inr (4, [.int pLength, .int pLatestFault, .ref pBytesA, .int pPlace, .int pToken, .int pFrom, .int pNumber, .int 1])), (pBytesA, .inl (D.1 7, 160, .inl pBytes)), (r0, .inr (1, [.int rCells, .int rSigns, .int rHour, .int rStops, .int rWaste, .int rDone, .int rBridged, .ref rKindA, .ref rRoomA, .ref rChargeA, .ref rLeakA, .ref rPlanA])), (rKindA, .inl (D.1 7, 5, .inl rKind)), (rRoomA, .inl (D.1 7, 5, .inl rRoom)), (rChargeA, .inl (D.1 7, 5, .inl rCharge)), (rLeakA, .inl (D.1 7, 5, .inl rLeak)), (rPlanA, .inl (D.1 7, 16, .inl rPlan))] C iw_X4_planIsTaken_X4 tyX4 tyX4_ok nmX4 rfl rfl (by decide) fl_X4_planIsTaken_24 rfl rfl rfl (nar_z hz) (fit_z hz) (Nat.le_of_ble_eq_true rfl) rfl dX4_planIsTaken_15 ?_
    refine j_iconst (pc := 18) 0 C (by decide) dX4_planIsTaken_18 ?_
    refine j_istore_n (pc := 19) 2 [(0, .ref p0), (1, .ref r0), (2, .int 0)] [1, 2, 0] C rfl (by decide) rfl dX4_planIsTaken_19 ?_
    exact t_X4_planIsTaken_20 C 1000 _ _ _ _ _ _ _ hf
  · refine j_aload_n (pc := 7) C 0 rfl dX4_planIsTaken_7 ?_
    refine j_iconst (pc := 8) 4 C (by decide) dX4_planIsTaken_8 ?_
    obtain ⟨a_15, pLatestFault_16, hu, hf⟩ := ob2_some hf
    refine j_callV (pc := 9) (N := 8) (qr := 0) (ci := 4) [.int 4] [] [.int 4, .ref p0] [.int a_15] [(p0, .inr (4, [.int pLength, .int pLatestFault_16, .ref pBytesA, .int pPlace, .int pToken, .int pFrom, .int pNumber, .int pPlanned])), (pBytesA, .inl (D.1 7, 160, .inl pBytes)), (r0, .inr (1, [.int rCells, .int rSigns, .int rHour, .int rStops, .int rWaste, .int rDone, .int rBridged, .ref rKindA, .ref rRoomA, .ref rChargeA, .ref rLeakA, .ref rPlanA])), (rKindA, .inl (D.1 7, 5, .inl rKind)), (rRoomA, .inl (D.1 7, 5, .inl rRoom)), (rChargeA, .inl (D.1 7, 5, .inl rCharge)), (rLeakA, .inl (D.1 7, 5, .inl rLeak)), (rPlanA, .inl (D.1 7, 16, .inl rPlan))] [(r0, .inr (1, [.int rCells, .int rSigns, .int rHour, .int rStops, .int rWaste, .int rDone, .int rBridged, .ref rKindA, .ref rRoomA, .ref rChargeA, .ref rLeakA, .ref rPlanA])), (rKindA, .inl (D.1 7, 5, .inl rKind)), (rRoomA, .inl (D.1 7, 5, .inl rRoom)), (rChargeA, .inl (D.1 7, 5, .inl rCharge)), (rLeakA, .inl (D.1 7, 5, .inl rLeak)), (rPlanA, .inl (D.1 7, 16, .inl rPlan))] [p0, pBytesA, r0, rKindA, rRoomA, rChargeA, rLeakA, rPlanA] [0, 1] [2, 3, 4, 5, 6, 7] C (c_X4_refused D p0 pBytesA 4 pLength pLatestFault pPlace pToken pFrom pNumber pPlanned pBytes a_15 pLatestFault_16 hu) k_X4_refused gX4_planIsTaken_X4_refused ⟨rfl, rfl⟩ ⟨Nat.le_of_ble_eq_true rfl, Nat.le_of_ble_eq_true rfl⟩ rfl rfl rfl rfl rfl rfl (Nat.le_of_ble_eq_true rfl) rfl rfl rfl rfl (by decide) (by decide) (by decide) rfl rfl rfl dX4_planIsTaken_9 ?_
    obtain ⟨hz, hf⟩ := cz_some hf
    obtain ⟨rfl, rfl, rfl, rfl, rfl, rfl, rfl, rfl, rfl⟩ := si9 hf
    exact j_zret (pc := 12) C hz dX4_planIsTaken_12
theorem k_X4_planIsTaken : CK yX4_planIsTaken wsX4_planIsTaken cX4_planIsTaken 3 (some .boolean) 1 := ⟨rfl, by decide +kernel⟩
theorem c_X4_planIsTaken (D : va_G) (p0 pBytesA r0 rKindA rRoomA rChargeA rLeakA rPlanA : Nat) (pLength : Int32) (pLatestFault : Int32) (pPlace : Int32) (pToken : Int32) (pFrom : Int32) (pNumber : Int32) (pPlanned : Int32) (pBytes : Nat → Int32) (rCells : Int32) (rSigns : Int32) (rHour : Int32) (rStops : Int32) (rWaste : Int32) (rDone : Int32) (rBridged : Int32) (rKind : Nat → Int32) (rRoom : Nat → Int32) (rCharge : Nat → Int32) (rLeak : Nat → Int32) (rPlan : Nat → Int32) (oR : Int32) (oPLatestFault : Int32) (oPPlace : Int32) (oPToken : Int32) (oPFrom : Int32) (oPNumber : Int32) (oPPlanned : Int32) (oRSigns : Int32) (oRPlan : Nat → Int32) (hf : f_X4_planIsTaken pLength pLatestFault pPlace pToken pFrom pNumber pPlanned pBytes rSigns rPlan = some (oR, oPLatestFault, oPPlace, oPToken, oPFrom, oPNumber, oPPlanned, oRSigns, oRPlan)) : ∀ l, MW l yX4_planIsTaken wsX4_planIsTaken ({ frames := 2, cells := 0, slots := 0, locals := 43 } : Room) D [.ref p0, .ref r0] [(p0, .inr (4, [.int pLength, .int pLatestFault, .ref pBytesA, .int pPlace, .int pToken, .int pFrom, .int pNumber, .int pPlanned])), (pBytesA, .inl (D.1 7, 160, .inl pBytes)), (r0, .inr (1, [.int rCells, .int rSigns, .int rHour, .int rStops, .int rWaste, .int rDone, .int rBridged, .ref rKindA, .ref rRoomA, .ref rChargeA, .ref rLeakA, .ref rPlanA])), (rKindA, .inl (D.1 7, 5, .inl rKind)), (rRoomA, .inl (D.1 7, 5, .inl rRoom)), (rChargeA, .inl (D.1 7, 5, .inl rCharge)), (rLeakA, .inl (D.1 7, 5, .inl rLeak)), (rPlanA, .inl (D.1 7, 16, .inl rPlan))] (some (.int oR)) [(p0, .inr (4, [.int pLength, .int oPLatestFault, .ref pBytesA, .int oPPlace, .int oPToken, .int oPFrom, .int oPNumber, .int oPPlanned])), (pBytesA, .inl (D.1 7, 160, .inl pBytes)), (r0, .inr (1, [.int rCells, .int oRSigns, .int rHour, .int rStops, .int rWaste, .int rDone, .int rBridged, .ref rKindA, .ref rRoomA, .ref rChargeA, .ref rLeakA, .ref rPlanA])), (rKindA, .inl (D.1 7, 5, .inl rKind)), (rRoomA, .inl (D.1 7, 5, .inl rRoom)), (rChargeA, .inl (D.1 7, 5, .inl rCharge)), (rLeakA, .inl (D.1 7, 5, .inl rLeak)), (rPlanA, .inl (D.1 7, 16, .inl oRPlan))] := j_met (cc := cX4_planIsTaken) (nl := 3) (rt := (some .boolean)) (own := RX4) (lv := [(0, .ref p0), (1, .ref r0)]) (by decide +kernel) rfl rfl rfl (Nat.le_of_ble_eq_true rfl) (fun G C => t_X4_planIsTaken_0 C hf)

