-- X2_becomes
theorem fl_X2_becomes_21 : Cond.fieldLink RX2 21 "CellsInRow$Seen" "size" "I" ∈ wsX2_becomes := by decide +kernel
theorem iw_X2_becomes_X2 : ∀ w ∈ wsX20, w ∈ wsX2_becomes := by decide +kernel
theorem fl_X2_becomes_9 : Cond.fieldLink RX2 9 "CellsInRow$Seen" "hour" "[I" ∈ wsX2_becomes := by decide +kernel
theorem ac_X2_becomes : Cond.methodLink RX2 25 arraycopyName ∈ wsX2_becomes ∧ Cond.native arraycopyName ∈ wsX2_becomes ∧ Cond.static arraycopyName ∈ wsX2_becomes ∧ Cond.initialized "java/lang/System" ∈ wsX2_becomes := by decide +kernel
theorem fl_X2_becomes_15 : Cond.fieldLink RX2 15 "CellsInRow$Seen" "cell" "[I" ∈ wsX2_becomes := by decide +kernel
theorem fl_X2_becomes_18 : Cond.fieldLink RX2 18 "CellsInRow$Seen" "value" "[I" ∈ wsX2_becomes := by decide +kernel
set_option maxHeartbeats 4000000 in
set_option maxRecDepth 100000 in
theorem t_X2_becomes_0 {G : jX} {D : va_G} {e0 eHourA eCellA eValueA q0 qHourA qCellA qValueA : Nat} {eSize : Int32} {eHour : Nat → Int32} {eCell : Nat → Int32} {eValue : Nat → Int32} {qSize : Int32} {qHour : Nat → Int32} {qCell : Nat → Int32} {qValue : Nat → Int32} {oESize : Int32} {oEHour : Nat → Int32} {oECell : Nat → Int32} {oEValue : Nat → Int32} (C : KC G D cX2_becomes RX2 wsX2_becomes ({ frames := 1, cells := 0, slots := 0, locals := 40 } : Room) 2 none none [(e0, .inr (2, [.int oESize, .ref eHourA, .ref eCellA, .ref eValueA])), (eHourA, .inl (D.1 7, 6, .inl oEHour)), (eCellA, .inl (D.1 7, 6, .inl oECell)), (eValueA, .inl (D.1 7, 6, .inl oEValue)), (q0, .inr (2, [.int qSize, .ref qHourA, .ref qCellA, .ref qValueA])), (qHourA, .inl (D.1 7, 6, .inl qHour)), (qCellA, .inl (D.1 7, 6, .inl qCell)), (qValueA, .inl (D.1 7, 6, .inl qValue))]) (hf : f_X2_becomes eSize eHour eCell eValue qSize qHour qCell qValue = some (oESize, oEHour, oECell, oEValue)) : JW G D 0 [(0, .ref e0), (1, .ref q0)] [] [(e0, .inr (2, [.int eSize, .ref eHourA, .ref eCellA, .ref eValueA])), (eHourA, .inl (D.1 7, 6, .inl eHour)), (eCellA, .inl (D.1 7, 6, .inl eCell)), (eValueA, .inl (D.1 7, 6, .inl eValue)), (q0, .inr (2, [.int qSize, .ref qHourA, .ref qCellA, .ref qValueA])), (qHourA, .inl (D.1 7, 6, .inl qHour)), (qCellA, .inl (D.1 7, 6, .inl qCell)), (qValueA, .inl (D.1 7, 6, .inl qValue))] := by
  unfold f_X2_becomes at hf
  refine j_aload_n (pc := 0) C 0 rfl dX2_becomes_0 ?_
  refine j_aload_n (pc := 1) C 1 rfl dX2_becomes_1 ?_
  refine j_get (pc := 2) 4 2 0 C iw_X2_becomes_X2 rfl rfl (by decide) fl_X2_becomes_21 rfl rfl dX2_becomes_2 ?_
  refine j_put (pc := 5) (ty := .int) 0 2 0 [(e0, .inr (2, [.int qSize, .ref eHourA, .ref eCellA, .ref eValueA])), (eHourA, .inl (D.1 7, 6, .inl eHour)), (eCellA, .inl (D.1 7, 6, .inl eCell)), (eValueA, .inl (D.1 7, 6, .inl eValue)), (q0, .inr (2, [.int qSize, .ref qHourA, .ref qCellA, .ref qValueA])), (qHourA, .inl (D.1 7, 6, .inl qHour)), (qCellA, .inl (D.1 7, 6, .inl qCell)), (qValueA, .inl (D.1 7, 6, .inl qValue))] C iw_X2_becomes_X2 tyX2 tyX2_ok nmX2 rfl rfl (by decide) fl_X2_becomes_21 rfl rfl rfl rfl rfl (Nat.le_of_ble_eq_true rfl) rfl dX2_becomes_5 ?_
  refine j_aload_n (pc := 8) C 1 rfl dX2_becomes_8 ?_
  refine j_get (pc := 9) 4 2 1 C iw_X2_becomes_X2 rfl rfl (by decide) fl_X2_becomes_9 rfl rfl dX2_becomes_9 ?_
  refine j_iconst (pc := 12) 0 C (by decide) dX2_becomes_12 ?_
  refine j_aload_n (pc := 13) C 0 rfl dX2_becomes_13 ?_
  refine j_get (pc := 14) 0 2 1 C iw_X2_becomes_X2 rfl rfl (by decide) fl_X2_becomes_9 rfl rfl dX2_becomes_14 ?_
  refine j_iconst (pc := 17) 0 C (by decide) dX2_becomes_17 ?_
  refine j_bipush (pc := 18) 6 C (by decide) dX2_becomes_18 ?_
  refine j_copy (pc := 20) 5 1 [(e0, .inr (2, [.int qSize, .ref eHourA, .ref eCellA, .ref eValueA])), (eHourA, .inl (D.1 7, 6, .inl (va_cpy qHour eHour (0 : Int32).toNatClampNeg (0 : Int32).toNatClampNeg (6 : Int32).toNatClampNeg))), (eCellA, .inl (D.1 7, 6, .inl eCell)), (eValueA, .inl (D.1 7, 6, .inl eValue)), (q0, .inr (2, [.int qSize, .ref qHourA, .ref qCellA, .ref qValueA])), (qHourA, .inl (D.1 7, 6, .inl qHour)), (qCellA, .inl (D.1 7, 6, .inl qCell)), (qValueA, .inl (D.1 7, 6, .inl qValue))] C ac_X2_becomes.1 ac_X2_becomes.2.1 ac_X2_becomes.2.2.1 ac_X2_becomes.2.2.2 rfl rfl (by decide) (by decide) (by decide) (by decide) (by decide) (by decide) (Nat.le_of_ble_eq_true rfl) rfl dX2_becomes_20 ?_
  refine j_aload_n (pc := 23) C 1 rfl dX2_becomes_23 ?_
  refine j_get (pc := 24) 4 2 2 C iw_X2_becomes_X2 rfl rfl (by decide) fl_X2_becomes_15 rfl rfl dX2_becomes_24 ?_
  refine j_iconst (pc := 27) 0 C (by decide) dX2_becomes_27 ?_
  refine j_aload_n (pc := 28) C 0 rfl dX2_becomes_28 ?_
  refine j_get (pc := 29) 0 2 2 C iw_X2_becomes_X2 rfl rfl (by decide) fl_X2_becomes_15 rfl rfl dX2_becomes_29 ?_
  refine j_iconst (pc := 32) 0 C (by decide) dX2_becomes_32 ?_
  refine j_bipush (pc := 33) 6 C (by decide) dX2_becomes_33 ?_
  refine j_copy (pc := 35) 6 2 [(e0, .inr (2, [.int qSize, .ref eHourA, .ref eCellA, .ref eValueA])), (eHourA, .inl (D.1 7, 6, .inl (va_cpy qHour eHour (0 : Int32).toNatClampNeg (0 : Int32).toNatClampNeg (6 : Int32).toNatClampNeg))), (eCellA, .inl (D.1 7, 6, .inl (va_cpy qCell eCell (0 : Int32).toNatClampNeg (0 : Int32).toNatClampNeg (6 : Int32).toNatClampNeg))), (eValueA, .inl (D.1 7, 6, .inl eValue)), (q0, .inr (2, [.int qSize, .ref qHourA, .ref qCellA, .ref qValueA])), (qHourA, .inl (D.1 7, 6, .inl qHour)), (qCellA, .inl (D.1 7, 6, .inl qCell)), (qValueA, .inl (D.1 7, 6, .inl qValue))] C ac_X2_becomes.1 ac_X2_becomes.2.1 ac_X2_becomes.2.2.1 ac_X2_becomes.2.2.2 rfl rfl (by decide) (by decide) (by decide) (by decide) (by decide) (by decide) (Nat.le_of_ble_eq_true rfl) rfl dX2_becomes_35 ?_
  refine j_aload_n (pc := 38) C 1 rfl dX2_becomes_38 ?_
  refine j_get (pc := 39) 4 2 3 C iw_X2_becomes_X2 rfl rfl (by decide) fl_X2_becomes_18 rfl rfl dX2_becomes_39 ?_
  refine j_iconst (pc := 42) 0 C (by decide) dX2_becomes_42 ?_
  refine j_aload_n (pc := 43) C 0 rfl dX2_becomes_43 ?_
  refine j_get (pc := 44) 0 2 3 C iw_X2_becomes_X2 rfl rfl (by decide) fl_X2_becomes_18 rfl rfl dX2_becomes_44 ?_
  refine j_iconst (pc := 47) 0 C (by decide) dX2_becomes_47 ?_
  refine j_bipush (pc := 48) 6 C (by decide) dX2_becomes_48 ?_
  refine j_copy (pc := 50) 7 3 [(e0, .inr (2, [.int qSize, .ref eHourA, .ref eCellA, .ref eValueA])), (eHourA, .inl (D.1 7, 6, .inl (va_cpy qHour eHour (0 : Int32).toNatClampNeg (0 : Int32).toNatClampNeg (6 : Int32).toNatClampNeg))), (eCellA, .inl (D.1 7, 6, .inl (va_cpy qCell eCell (0 : Int32).toNatClampNeg (0 : Int32).toNatClampNeg (6 : Int32).toNatClampNeg))), (eValueA, .inl (D.1 7, 6, .inl (va_cpy qValue eValue (0 : Int32).toNatClampNeg (0 : Int32).toNatClampNeg (6 : Int32).toNatClampNeg))), (q0, .inr (2, [.int qSize, .ref qHourA, .ref qCellA, .ref qValueA])), (qHourA, .inl (D.1 7, 6, .inl qHour)), (qCellA, .inl (D.1 7, 6, .inl qCell)), (qValueA, .inl (D.1 7, 6, .inl qValue))] C ac_X2_becomes.1 ac_X2_becomes.2.1 ac_X2_becomes.2.2.1 ac_X2_becomes.2.2.2 rfl rfl (by decide) (by decide) (by decide) (by decide) (by decide) (by decide) (Nat.le_of_ble_eq_true rfl) rfl dX2_becomes_50 ?_
  obtain ⟨rfl, rfl, rfl, rfl⟩ := si4 hf
  exact j_vret (pc := 53) C dX2_becomes_53
theorem k_X2_becomes : CK yX2_becomes wsX2_becomes cX2_becomes 2 none 1 := ⟨rfl, by decide +kernel⟩
theorem c_X2_becomes (D : va_G) (e0 eHourA eCellA eValueA q0 qHourA qCellA qValueA : Nat) (eSize : Int32) (eHour : Nat → Int32) (eCell : Nat → Int32) (eValue : Nat → Int32) (qSize : Int32) (qHour : Nat → Int32) (qCell : Nat → Int32) (qValue : Nat → Int32) (oESize : Int32) (oEHour : Nat → Int32) (oECell : Nat → Int32) (oEValue : Nat → Int32) (hf : f_X2_becomes eSize eHour eCell eValue qSize qHour qCell qValue = some (oESize, oEHour, oECell, oEValue)) : ∀ l, MW l yX2_becomes wsX2_becomes ({ frames := 1, cells := 0, slots := 0, locals := 40 } : Room) D [.ref e0, .ref q0] [(e0, .inr (2, [.int eSize, .ref eHourA, .ref eCellA, .ref eValueA])), (eHourA, .inl (D.1 7, 6, .inl eHour)), (eCellA, .inl (D.1 7, 6, .inl eCell)), (eValueA, .inl (D.1 7, 6, .inl eValue)), (q0, .inr (2, [.int qSize, .ref qHourA, .ref qCellA, .ref qValueA])), (qHourA, .inl (D.1 7, 6, .inl qHour)), (qCellA, .inl (D.1 7, 6, .inl qCell)), (qValueA, .inl (D.1 7, 6, .inl qValue))] none [(e0, .inr (2, [.int oESize, .ref eHourA, .ref eCellA, .ref eValueA])), (eHourA, .inl (D.1 7, 6, .inl oEHour)), (eCellA, .inl (D.1 7, 6, .inl oECell)), (eValueA, .inl (D.1 7, 6, .inl oEValue)), (q0, .inr (2, [.int qSize, .ref qHourA, .ref qCellA, .ref qValueA])), (qHourA, .inl (D.1 7, 6, .inl qHour)), (qCellA, .inl (D.1 7, 6, .inl qCell)), (qValueA, .inl (D.1 7, 6, .inl qValue))] := j_met (cc := cX2_becomes) (nl := 2) (rt := none) (own := RX2) (lv := [(0, .ref e0), (1, .ref q0)]) (by decide +kernel) rfl rfl rfl (Nat.le_of_ble_eq_true rfl) (fun G C => t_X2_becomes_0 C hf)

-- X2_append
theorem fl_X2_append_21 : Cond.fieldLink RX2 21 "CellsInRow$Seen" "size" "I" ∈ wsX2_append := by decide +kernel
theorem iw_X2_append_X2 : ∀ w ∈ wsX20, w ∈ wsX2_append := by decide +kernel
theorem fl_X2_append_9 : Cond.fieldLink RX2 9 "CellsInRow$Seen" "hour" "[I" ∈ wsX2_append := by decide +kernel
theorem fl_X2_append_15 : Cond.fieldLink RX2 15 "CellsInRow$Seen" "cell" "[I" ∈ wsX2_append := by decide +kernel
theorem fl_X2_append_18 : Cond.fieldLink RX2 18 "CellsInRow$Seen" "value" "[I" ∈ wsX2_append := by decide +kernel
set_option maxHeartbeats 4000000 in
set_option maxRecDepth 100000 in
theorem t_X2_append_0 {G : jX} {D : va_G} {e0 eHourA eCellA eValueA : Nat} {v1 : Int32} {v2 : Int32} {v3 : Int32} {eSize : Int32} {eHour : Nat → Int32} {eCell : Nat → Int32} {eValue : Nat → Int32} {oESize : Int32} {oEHour : Nat → Int32} {oECell : Nat → Int32} {oEValue : Nat → Int32} (C : KC G D cX2_append RX2 wsX2_append ({ frames := 0, cells := 0, slots := 0, locals := 0 } : Room) 4 none none [(e0, .inr (2, [.int oESize, .ref eHourA, .ref eCellA, .ref eValueA])), (eHourA, .inl (D.1 7, 6, .inl oEHour)), (eCellA, .inl (D.1 7, 6, .inl oECell)), (eValueA, .inl (D.1 7, 6, .inl oEValue))]) (hf : f_X2_append v1 v2 v3 eSize eHour eCell eValue = some (oESize, oEHour, oECell, oEValue)) : JW G D 0 [(0, .ref e0), (1, .int v1), (2, .int v2), (3, .int v3)] [] [(e0, .inr (2, [.int eSize, .ref eHourA, .ref eCellA, .ref eValueA])), (eHourA, .inl (D.1 7, 6, .inl eHour)), (eCellA, .inl (D.1 7, 6, .inl eCell)), (eValueA, .inl (D.1 7, 6, .inl eValue))] := by
  unfold f_X2_append at hf
  refine j_aload_n (pc := 0) C 0 rfl dX2_append_0 ?_
  refine j_get (pc := 1) 0 2 0 C iw_X2_append_X2 rfl rfl (by decide) fl_X2_append_21 rfl rfl dX2_append_1 ?_
  refine j_bipush (pc := 4) 6 C (by decide) dX2_append_4 ?_
  refine j_icmp_ge (pc := 6) 49 C hf (by decide) dX2_append_6 (fun hf => ?_) (fun hf => ?_)
  · obtain ⟨rfl, rfl, rfl, rfl⟩ := si4 hf
    exact j_vret (pc := 49) C dX2_append_49
  · refine j_aload_n (pc := 9) C 0 rfl dX2_append_9 ?_
    refine j_get (pc := 10) 0 2 1 C iw_X2_append_X2 rfl rfl (by decide) fl_X2_append_9 rfl rfl dX2_append_10 ?_
    refine j_aload_n (pc := 13) C 0 rfl dX2_append_13 ?_
    refine j_get (pc := 14) 0 2 0 C iw_X2_append_X2 rfl rfl (by decide) fl_X2_append_21 rfl rfl dX2_append_14 ?_
    refine j_iload_n (pc := 17) C 1 rfl dX2_append_17 ?_
    refine j_iast (pc := 18) 1 [(e0, .inr (2, [.int eSize, .ref eHourA, .ref eCellA, .ref eValueA])), (eHourA, .inl (D.1 7, 6, .inl (upd eHour eSize.toNatClampNeg v1))), (eCellA, .inl (D.1 7, 6, .inl eCell)), (eValueA, .inl (D.1 7, 6, .inl eValue))] C rfl rfl hf dX2_append_18 (fun hf => ?_)
    refine j_aload_n (pc := 19) C 0 rfl dX2_append_19 ?_
    refine j_get (pc := 20) 0 2 2 C iw_X2_append_X2 rfl rfl (by decide) fl_X2_append_15 rfl rfl dX2_append_20 ?_
    refine j_aload_n (pc := 23) C 0 rfl dX2_append_23 ?_
    refine j_get (pc := 24) 0 2 0 C iw_X2_append_X2 rfl rfl (by decide) fl_X2_append_21 rfl rfl dX2_append_24 ?_
    refine j_iload_n (pc := 27) C 2 rfl dX2_append_27 ?_
    refine j_iast (pc := 28) 2 [(e0, .inr (2, [.int eSize, .ref eHourA, .ref eCellA, .ref eValueA])), (eHourA, .inl (D.1 7, 6, .inl (upd eHour eSize.toNatClampNeg v1))), (eCellA, .inl (D.1 7, 6, .inl (upd eCell eSize.toNatClampNeg v2))), (eValueA, .inl (D.1 7, 6, .inl eValue))] C rfl rfl hf dX2_append_28 (fun hf => ?_)
    refine j_aload_n (pc := 29) C 0 rfl dX2_append_29 ?_
    refine j_get (pc := 30) 0 2 3 C iw_X2_append_X2 rfl rfl (by decide) fl_X2_append_18 rfl rfl dX2_append_30 ?_
    refine j_aload_n (pc := 33) C 0 rfl dX2_append_33 ?_
    refine j_get (pc := 34) 0 2 0 C iw_X2_append_X2 rfl rfl (by decide) fl_X2_append_21 rfl rfl dX2_append_34 ?_
    refine j_iload_n (pc := 37) C 3 rfl dX2_append_37 ?_
    refine j_iast (pc := 38) 3 [(e0, .inr (2, [.int eSize, .ref eHourA, .ref eCellA, .ref eValueA])), (eHourA, .inl (D.1 7, 6, .inl (upd eHour eSize.toNatClampNeg v1))), (eCellA, .inl (D.1 7, 6, .inl (upd eCell eSize.toNatClampNeg v2))), (eValueA, .inl (D.1 7, 6, .inl (upd eValue eSize.toNatClampNeg v3)))] C rfl rfl hf dX2_append_38 (fun hf => ?_)
    refine j_aload_n (pc := 39) C 0 rfl dX2_append_39 ?_
    refine j_dup (pc := 40) C rfl dX2_append_40 ?_
    refine j_get (pc := 41) 0 2 0 C iw_X2_append_X2 rfl rfl (by decide) fl_X2_append_21 rfl rfl dX2_append_41 ?_
    refine j_iconst (pc := 44) 1 C (by decide) dX2_append_44 ?_
    refine j_iadd (pc := 45) C dX2_append_45 ?_
    refine j_put (pc := 46) (ty := .int) 0 2 0 [(e0, .inr (2, [.int (eSize + 1), .ref eHourA, .ref eCellA, .ref eValueA])), (eHourA, .inl (D.1 7, 6, .inl (upd eHour eSize.toNatClampNeg v1))), (eCellA, .inl (D.1 7, 6, .inl (upd eCell eSize.toNatClampNeg v2))), (eValueA, .inl (D.1 7, 6, .inl (upd eValue eSize.toNatClampNeg v3)))] C iw_X2_append_X2 tyX2 tyX2_ok nmX2 rfl rfl (by decide) fl_X2_append_21 rfl rfl rfl rfl rfl (Nat.le_of_ble_eq_true rfl) rfl dX2_append_46 ?_
    obtain ⟨rfl, rfl, rfl, rfl⟩ := si4 hf
    exact j_vret (pc := 49) C dX2_append_49
theorem k_X2_append : CK yX2_append wsX2_append cX2_append 4 none 3 := ⟨rfl, by decide +kernel⟩
theorem c_X2_append (D : va_G) (e0 eHourA eCellA eValueA : Nat) (v1 : Int32) (v2 : Int32) (v3 : Int32) (eSize : Int32) (eHour : Nat → Int32) (eCell : Nat → Int32) (eValue : Nat → Int32) (oESize : Int32) (oEHour : Nat → Int32) (oECell : Nat → Int32) (oEValue : Nat → Int32) (hf : f_X2_append v1 v2 v3 eSize eHour eCell eValue = some (oESize, oEHour, oECell, oEValue)) : ∀ l, MW l yX2_append wsX2_append ({ frames := 0, cells := 0, slots := 0, locals := 0 } : Room) D [.ref e0, .int v1, .int v2, .int v3] [(e0, .inr (2, [.int eSize, .ref eHourA, .ref eCellA, .ref eValueA])), (eHourA, .inl (D.1 7, 6, .inl eHour)), (eCellA, .inl (D.1 7, 6, .inl eCell)), (eValueA, .inl (D.1 7, 6, .inl eValue))] none [(e0, .inr (2, [.int oESize, .ref eHourA, .ref eCellA, .ref eValueA])), (eHourA, .inl (D.1 7, 6, .inl oEHour)), (eCellA, .inl (D.1 7, 6, .inl oECell)), (eValueA, .inl (D.1 7, 6, .inl oEValue))] := j_met (cc := cX2_append) (nl := 4) (rt := none) (own := RX2) (lv := [(0, .ref e0), (1, .int v1), (2, .int v2), (3, .int v3)]) (by decide +kernel) rfl rfl rfl (Nat.le_of_ble_eq_true rfl) (fun G C => t_X2_append_0 C hf)

-- X2_lastHour
theorem fl_X2_lastHour_21 : Cond.fieldLink RX2 21 "CellsInRow$Seen" "size" "I" ∈ wsX2_lastHour := by decide +kernel
theorem iw_X2_lastHour_X2 : ∀ w ∈ wsX20, w ∈ wsX2_lastHour := by decide +kernel
theorem fl_X2_lastHour_9 : Cond.fieldLink RX2 9 "CellsInRow$Seen" "hour" "[I" ∈ wsX2_lastHour := by decide +kernel
theorem mm_X2_lastHour_max : Cond.methodLink RX2 31 Lib.Math.max.name ∈ wsX2_lastHour ∧ Cond.static Lib.Math.max.name ∈ wsX2_lastHour ∧ Cond.initialized "java/lang/Math" ∈ wsX2_lastHour ∧ Cond.code Lib.Math.max.name Lib.Math.max.code 2 (some .int) ∈ wsX2_lastHour := by decide +kernel
set_option maxHeartbeats 4000000 in
set_option maxRecDepth 100000 in
theorem t_X2_lastHour_4 {G : jX} {D : va_G} {e0 eHourA eCellA eValueA : Nat} {eSize : Int32} {eHour : Nat → Int32} {eCell : Nat → Int32} {eValue : Nat → Int32} {oR : Int32} (C : KC G D cX2_lastHour RX2 wsX2_lastHour ({ frames := 1, cells := 0, slots := 0, locals := 13 } : Room) 3 (some .int) (some (.int oR)) [(e0, .inr (2, [.int eSize, .ref eHourA, .ref eCellA, .ref eValueA])), (eHourA, .inl (D.1 7, 6, .inl eHour)), (eCellA, .inl (D.1 7, 6, .inl eCell)), (eValueA, .inl (D.1 7, 6, .inl eValue))]) : ∀ (n : Nat) (v1 : Int32) (v2 : Int32), f_X2_lastHour_4 eSize eHour n v1 v2 = some oR → JW G D 4 [(0, .ref e0), (1, .int v1), (2, .int v2)] [] [(e0, .inr (2, [.int eSize, .ref eHourA, .ref eCellA, .ref eValueA])), (eHourA, .inl (D.1 7, 6, .inl eHour)), (eCellA, .inl (D.1 7, 6, .inl eCell)), (eValueA, .inl (D.1 7, 6, .inl eValue))] := by
  intro n
  induction n with
  | zero => intro _ _ hf; rw [f_X2_lastHour_4] at hf; cases hf
  | succ n ih =>
    intro v1 v2 hf
    rw [f_X2_lastHour_4] at hf
    refine j_iload_n (pc := 4) C 2 rfl dX2_lastHour_4 ?_
    refine j_aload_n (pc := 5) C 0 rfl dX2_lastHour_5 ?_
    refine j_get (pc := 6) 0 2 0 C iw_X2_lastHour_X2 rfl rfl (by decide) fl_X2_lastHour_21 rfl rfl dX2_lastHour_6 ?_
    refine j_icmp_ge (pc := 9) 29 C hf (by decide) dX2_lastHour_9 (fun hf => ?_) (fun hf => ?_)
    · refine j_iload_n (pc := 29) C 1 rfl dX2_lastHour_29 ?_
      obtain rfl := si1 hf
      exact j_iret (pc := 30) C dX2_lastHour_30
    · refine j_iload_n (pc := 12) C 1 rfl dX2_lastHour_12 ?_
      refine j_aload_n (pc := 13) C 0 rfl dX2_lastHour_13 ?_
      refine j_get (pc := 14) 0 2 1 C iw_X2_lastHour_X2 rfl rfl (by decide) fl_X2_lastHour_9 rfl rfl dX2_lastHour_14 ?_
      refine j_iload_n (pc := 17) C 2 rfl dX2_lastHour_17 ?_
      refine j_iald (pc := 18) 1 C rfl hf dX2_lastHour_18 (fun hf => ?_)
      refine j_mmax (pc := 19) C mm_X2_lastHour_max.1 mm_X2_lastHour_max.2.1 mm_X2_lastHour_max.2.2.1 mm_X2_lastHour_max.2.2.2 (by decide) (Nat.le_of_ble_eq_true rfl) dX2_lastHour_19 ?_
      refine j_bdi hf (fun y_1 hf => ?_)
      refine j_istore_n (pc := 22) 1 [(0, .ref e0), (1, .int y_1), (2, .int v2)] [1, 0, 2] C rfl (by decide) rfl dX2_lastHour_22 ?_
      refine j_iinc (pc := 23) (v2 + 1) 2 2 [(0, .ref e0), (1, .int y_1), (2, .int (v2 + 1))] [1, 2, 0] C rfl (by rfl) (by decide) rfl dX2_lastHour_23 ?_
      refine j_goto (pc := 26) 4 C (by decide) dX2_lastHour_26 ?_
      exact ih _ _ hf
set_option maxHeartbeats 4000000 in
set_option maxRecDepth 100000 in
theorem t_X2_lastHour_0 {G : jX} {D : va_G} {e0 eHourA eCellA eValueA : Nat} {eSize : Int32} {eHour : Nat → Int32} {eCell : Nat → Int32} {eValue : Nat → Int32} {oR : Int32} (C : KC G D cX2_lastHour RX2 wsX2_lastHour ({ frames := 1, cells := 0, slots := 0, locals := 13 } : Room) 3 (some .int) (some (.int oR)) [(e0, .inr (2, [.int eSize, .ref eHourA, .ref eCellA, .ref eValueA])), (eHourA, .inl (D.1 7, 6, .inl eHour)), (eCellA, .inl (D.1 7, 6, .inl eCell)), (eValueA, .inl (D.1 7, 6, .inl eValue))]) (hf : f_X2_lastHour eSize eHour = some oR) : JW G D 0 [(0, .ref e0)] [] [(e0, .inr (2, [.int eSize, .ref eHourA, .ref eCellA, .ref eValueA])), (eHourA, .inl (D.1 7, 6, .inl eHour)), (eCellA, .inl (D.1 7, 6, .inl eCell)), (eValueA, .inl (D.1 7, 6, .inl eValue))] := by
  unfold f_X2_lastHour at hf
  refine j_iconst (pc := 0) (-1) C (by decide) dX2_lastHour_0 ?_
  refine j_istore_n (pc := 1) 1 [(0, .ref e0), (1, .int (-1))] [1, 0] C rfl (by decide) rfl dX2_lastHour_1 ?_
  refine j_iconst (pc := 2) 0 C (by decide) dX2_lastHour_2 ?_
  refine j_istore_n (pc := 3) 2 [(0, .ref e0), (1, .int (-1)), (2, .int 0)] [1, 2, 0] C rfl (by decide) rfl dX2_lastHour_3 ?_
  exact t_X2_lastHour_4 C 1000 _ _ hf
theorem k_X2_lastHour : CK yX2_lastHour wsX2_lastHour cX2_lastHour 3 (some .int) 0 := ⟨rfl, by decide +kernel⟩
theorem c_X2_lastHour (D : va_G) (e0 eHourA eCellA eValueA : Nat) (eSize : Int32) (eHour : Nat → Int32) (eCell : Nat → Int32) (eValue : Nat → Int32) (oR : Int32) (hf : f_X2_lastHour eSize eHour = some oR) : ∀ l, MW l yX2_lastHour wsX2_lastHour ({ frames := 1, cells := 0, slots := 0, locals := 13 } : Room) D [.ref e0] [(e0, .inr (2, [.int eSize, .ref eHourA, .ref eCellA, .ref eValueA])), (eHourA, .inl (D.1 7, 6, .inl eHour)), (eCellA, .inl (D.1 7, 6, .inl eCell)), (eValueA, .inl (D.1 7, 6, .inl eValue))] (some (.int oR)) [(e0, .inr (2, [.int eSize, .ref eHourA, .ref eCellA, .ref eValueA])), (eHourA, .inl (D.1 7, 6, .inl eHour)), (eCellA, .inl (D.1 7, 6, .inl eCell)), (eValueA, .inl (D.1 7, 6, .inl eValue))] := j_met (cc := cX2_lastHour) (nl := 3) (rt := (some .int)) (own := RX2) (lv := [(0, .ref e0)]) (by decide +kernel) rfl rfl rfl (Nat.le_of_ble_eq_true rfl) (fun G C => t_X2_lastHour_0 C hf)

-- X2_agrees
theorem fl_X2_agrees_21 : Cond.fieldLink RX2 21 "CellsInRow$Seen" "size" "I" ∈ wsX2_agrees := by decide +kernel
theorem iw_X2_agrees_X2 : ∀ w ∈ wsX20, w ∈ wsX2_agrees := by decide +kernel
theorem fl_X2_agrees_9 : Cond.fieldLink RX2 9 "CellsInRow$Seen" "hour" "[I" ∈ wsX2_agrees := by decide +kernel
theorem fl_X2_agrees_37 : Cond.fieldLink RX2 37 "CellsInRow$Row" "charge" "[I" ∈ wsX2_agrees := by decide +kernel
theorem iw_X2_agrees_X1 : ∀ w ∈ wsX10, w ∈ wsX2_agrees := by decide +kernel
theorem fl_X2_agrees_15 : Cond.fieldLink RX2 15 "CellsInRow$Seen" "cell" "[I" ∈ wsX2_agrees := by decide +kernel
theorem fl_X2_agrees_18 : Cond.fieldLink RX2 18 "CellsInRow$Seen" "value" "[I" ∈ wsX2_agrees := by decide +kernel
set_option maxHeartbeats 4000000 in
set_option maxRecDepth 100000 in
theorem t_X2_agrees_2 {G : jX} {D : va_G} {e0 eHourA eCellA eValueA r0 rKindA rRoomA rChargeA rLeakA rPlanA : Nat} {v1 : Int32} {eSize : Int32} {eHour : Nat → Int32} {eCell : Nat → Int32} {eValue : Nat → Int32} {rCells : Int32} {rSigns : Int32} {rHour : Int32} {rStops : Int32} {rWaste : Int32} {rDone : Int32} {rBridged : Int32} {rKind : Nat → Int32} {rRoom : Nat → Int32} {rCharge : Nat → Int32} {rLeak : Nat → Int32} {rPlan : Nat → Int32} {oR : Int32} (C : KC G D cX2_agrees RX2 wsX2_agrees ({ frames := 0, cells := 0, slots := 0, locals := 0 } : Room) 4 (some .boolean) (some (.int oR)) [(e0, .inr (2, [.int eSize, .ref eHourA, .ref eCellA, .ref eValueA])), (eHourA, .inl (D.1 7, 6, .inl eHour)), (eCellA, .inl (D.1 7, 6, .inl eCell)), (eValueA, .inl (D.1 7, 6, .inl eValue)), (r0, .inr (1, [.int rCells, .int rSigns, .int rHour, .int rStops, .int rWaste, .int rDone, .int rBridged, .ref rKindA, .ref rRoomA, .ref rChargeA, .ref rLeakA, .ref rPlanA])), (rKindA, .inl (D.1 7, 5, .inl rKind)), (rRoomA, .inl (D.1 7, 5, .inl rRoom)), (rChargeA, .inl (D.1 7, 5, .inl rCharge)), (rLeakA, .inl (D.1 7, 5, .inl rLeak)), (rPlanA, .inl (D.1 7, 16, .inl rPlan))]) : ∀ (n : Nat) (v3 : Int32), f_X2_agrees_2 v1 eSize eHour eCell eValue rCharge n v3 = some oR → JW G D 2 [(0, .ref e0), (1, .int v1), (2, .ref r0), (3, .int v3)] [] [(e0, .inr (2, [.int eSize, .ref eHourA, .ref eCellA, .ref eValueA])), (eHourA, .inl (D.1 7, 6, .inl eHour)), (eCellA, .inl (D.1 7, 6, .inl eCell)), (eValueA, .inl (D.1 7, 6, .inl eValue)), (r0, .inr (1, [.int rCells, .int rSigns, .int rHour, .int rStops, .int rWaste, .int rDone, .int rBridged, .ref rKindA, .ref rRoomA, .ref rChargeA, .ref rLeakA, .ref rPlanA])), (rKindA, .inl (D.1 7, 5, .inl rKind)), (rRoomA, .inl (D.1 7, 5, .inl rRoom)), (rChargeA, .inl (D.1 7, 5, .inl rCharge)), (rLeakA, .inl (D.1 7, 5, .inl rLeak)), (rPlanA, .inl (D.1 7, 16, .inl rPlan))] := by
  intro n
  induction n with
  | zero => intro _ hf; rw [f_X2_agrees_2] at hf; cases hf
  | succ n ih =>
    intro v3 hf
    rw [f_X2_agrees_2] at hf
    refine j_iload_n (pc := 2) C 3 rfl dX2_agrees_2 ?_
    refine j_aload_n (pc := 3) C 0 rfl dX2_agrees_3 ?_
    refine j_get (pc := 4) 0 2 0 C iw_X2_agrees_X2 rfl rfl (by decide) fl_X2_agrees_21 rfl rfl dX2_agrees_4 ?_
    refine j_icmp_ge (pc := 7) 48 C hf (by decide) dX2_agrees_7 (fun hf => ?_) (fun hf => ?_)
    · refine j_iconst (pc := 48) 1 C (by decide) dX2_agrees_48 ?_
      obtain rfl := si1 hf
      exact j_zret (pc := 49) C (by decide) dX2_agrees_49
    · refine j_aload_n (pc := 10) C 0 rfl dX2_agrees_10 ?_
      refine j_get (pc := 11) 0 2 1 C iw_X2_agrees_X2 rfl rfl (by decide) fl_X2_agrees_9 rfl rfl dX2_agrees_11 ?_
      refine j_iload_n (pc := 14) C 3 rfl dX2_agrees_14 ?_
      refine j_iald (pc := 15) 1 C rfl hf dX2_agrees_15 (fun hf => ?_)
      refine j_iload_n (pc := 16) C 1 rfl dX2_agrees_16 ?_
      refine j_icmp_ne (pc := 17) 42 C hf (by decide) dX2_agrees_17 (fun hf => ?_) (fun hf => ?_)
      · refine j_iinc (pc := 42) (v3 + 1) 3 3 [(0, .ref e0), (1, .int v1), (2, .ref r0), (3, .int (v3 + 1))] [1, 2, 3, 0] C rfl (by rfl) (by decide) rfl dX2_agrees_42 ?_
        refine j_goto (pc := 45) 2 C (by decide) dX2_agrees_45 ?_
        exact ih _ hf
      · refine j_aload_n (pc := 20) C 2 rfl dX2_agrees_20 ?_
        refine j_get (pc := 21) 4 1 9 C iw_X2_agrees_X1 rfl rfl (by decide) fl_X2_agrees_37 rfl rfl dX2_agrees_21 ?_
        refine j_aload_n (pc := 24) C 0 rfl dX2_agrees_24 ?_
        refine j_get (pc := 25) 0 2 2 C iw_X2_agrees_X2 rfl rfl (by decide) fl_X2_agrees_15 rfl rfl dX2_agrees_25 ?_
        refine j_iload_n (pc := 28) C 3 rfl dX2_agrees_28 ?_
        refine j_iald (pc := 29) 2 C rfl hf dX2_agrees_29 (fun hf => ?_)
        refine j_iald (pc := 30) 7 C rfl hf dX2_agrees_30 (fun hf => ?_)
        refine j_aload_n (pc := 31) C 0 rfl dX2_agrees_31 ?_
        refine j_get (pc := 32) 0 2 3 C iw_X2_agrees_X2 rfl rfl (by decide) fl_X2_agrees_18 rfl rfl dX2_agrees_32 ?_
        refine j_iload_n (pc := 35) C 3 rfl dX2_agrees_35 ?_
        refine j_iald (pc := 36) 3 C rfl hf dX2_agrees_36 (fun hf => ?_)
        refine j_icmp_eq (pc := 37) 42 C hf (by decide) dX2_agrees_37 (fun hf => ?_) (fun hf => ?_)
        · refine j_iinc (pc := 42) (v3 + 1) 3 3 [(0, .ref e0), (1, .int v1), (2, .ref r0), (3, .int (v3 + 1))] [1, 2, 3, 0] C rfl (by rfl) (by decide) rfl dX2_agrees_42 ?_
          refine j_goto (pc := 45) 2 C (by decide) dX2_agrees_45 ?_
          exact ih _ hf
        · refine j_iconst (pc := 40) 0 C (by decide) dX2_agrees_40 ?_
          obtain rfl := si1 hf
          exact j_zret (pc := 41) C (by decide) dX2_agrees_41
set_option maxHeartbeats 4000000 in
set_option maxRecDepth 100000 in
theorem t_X2_agrees_0 {G : jX} {D : va_G} {e0 eHourA eCellA eValueA r0 rKindA rRoomA rChargeA rLeakA rPlanA : Nat} {v1 : Int32} {eSize : Int32} {eHour : Nat → Int32} {eCell : Nat → Int32} {eValue : Nat → Int32} {rCells : Int32} {rSigns : Int32} {rHour : Int32} {rStops : Int32} {rWaste : Int32} {rDone : Int32} {rBridged : Int32} {rKind : Nat → Int32} {rRoom : Nat → Int32} {rCharge : Nat → Int32} {rLeak : Nat → Int32} {rPlan : Nat → Int32} {oR : Int32} (C : KC G D cX2_agrees RX2 wsX2_agrees ({ frames := 0, cells := 0, slots := 0, locals := 0 } : Room) 4 (some .boolean) (some (.int oR)) [(e0, .inr (2, [.int eSize, .ref eHourA, .ref eCellA, .ref eValueA])), (eHourA, .inl (D.1 7, 6, .inl eHour)), (eCellA, .inl (D.1 7, 6, .inl eCell)), (eValueA, .inl (D.1 7, 6, .inl eValue)), (r0, .inr (1, [.int rCells, .int rSigns, .int rHour, .int rStops, .int rWaste, .int rDone, .int rBridged, .ref rKindA, .ref rRoomA, .ref rChargeA, .ref rLeakA, .ref rPlanA])), (rKindA, .inl (D.1 7, 5, .inl rKind)), (rRoomA, .inl (D.1 7, 5, .inl rRoom)), (rChargeA, .inl (D.1 7, 5, .inl rCharge)), (rLeakA, .inl (D.1 7, 5, .inl rLeak)), (rPlanA, .inl (D.1 7, 16, .inl rPlan))]) (hf : f_X2_agrees v1 eSize eHour eCell eValue rCharge = some oR) : JW G D 0 [(0, .ref e0), (1, .int v1), (2, .ref r0)] [] [(e0, .inr (2, [.int eSize, .ref eHourA, .ref eCellA, .ref eValueA])), (eHourA, .inl (D.1 7, 6, .inl eHour)), (eCellA, .inl (D.1 7, 6, .inl eCell)), (eValueA, .inl (D.1 7, 6, .inl eValue)), (r0, .inr (1, [.int rCells, .int rSigns, .int rHour, .int rStops, .int rWaste, .int rDone, .int rBridged, .ref rKindA, .ref rRoomA, .ref rChargeA, .ref rLeakA, .ref rPlanA])), (rKindA, .inl (D.1 7, 5, .inl rKind)), (rRoomA, .inl (D.1 7, 5, .inl rRoom)), (rChargeA, .inl (D.1 7, 5, .inl rCharge)), (rLeakA, .inl (D.1 7, 5, .inl rLeak)), (rPlanA, .inl (D.1 7, 16, .inl rPlan))] := by
  unfold f_X2_agrees at hf
  refine j_iconst (pc := 0) 0 C (by decide) dX2_agrees_0 ?_
  refine j_istore_n (pc := 1) 3 [(0, .ref e0), (1, .int v1), (2, .ref r0), (3, .int 0)] [1, 2, 3, 0] C rfl (by decide) rfl dX2_agrees_1 ?_
  exact t_X2_agrees_2 C 1000 _ hf
theorem k_X2_agrees : CK yX2_agrees wsX2_agrees cX2_agrees 4 (some .boolean) 2 := ⟨rfl, by decide +kernel⟩
theorem c_X2_agrees (D : va_G) (e0 eHourA eCellA eValueA r0 rKindA rRoomA rChargeA rLeakA rPlanA : Nat) (v1 : Int32) (eSize : Int32) (eHour : Nat → Int32) (eCell : Nat → Int32) (eValue : Nat → Int32) (rCells : Int32) (rSigns : Int32) (rHour : Int32) (rStops : Int32) (rWaste : Int32) (rDone : Int32) (rBridged : Int32) (rKind : Nat → Int32) (rRoom : Nat → Int32) (rCharge : Nat → Int32) (rLeak : Nat → Int32) (rPlan : Nat → Int32) (oR : Int32) (hf : f_X2_agrees v1 eSize eHour eCell eValue rCharge = some oR) : ∀ l, MW l yX2_agrees wsX2_agrees ({ frames := 0, cells := 0, slots := 0, locals := 0 } : Room) D [.ref e0, .int v1, .ref r0] [(e0, .inr (2, [.int eSize, .ref eHourA, .ref eCellA, .ref eValueA])), (eHourA, .inl (D.1 7, 6, .inl eHour)), (eCellA, .inl (D.1 7, 6, .inl eCell)), (eValueA, .inl (D.1 7, 6, .inl eValue)), (r0, .inr (1, [.int rCells, .int rSigns, .int rHour, .int rStops, .int rWaste, .int rDone, .int rBridged, .ref rKindA, .ref rRoomA, .ref rChargeA, .ref rLeakA, .ref rPlanA])), (rKindA, .inl (D.1 7, 5, .inl rKind)), (rRoomA, .inl (D.1 7, 5, .inl rRoom)), (rChargeA, .inl (D.1 7, 5, .inl rCharge)), (rLeakA, .inl (D.1 7, 5, .inl rLeak)), (rPlanA, .inl (D.1 7, 16, .inl rPlan))] (some (.int oR)) [(e0, .inr (2, [.int eSize, .ref eHourA, .ref eCellA, .ref eValueA])), (eHourA, .inl (D.1 7, 6, .inl eHour)), (eCellA, .inl (D.1 7, 6, .inl eCell)), (eValueA, .inl (D.1 7, 6, .inl eValue)), (r0, .inr (1, [.int rCells, .int rSigns, .int rHour, .int rStops, .int rWaste, .int rDone, .int rBridged, .ref rKindA, .ref rRoomA, .ref rChargeA, .ref rLeakA, .ref rPlanA])), (rKindA, .inl (D.1 7, 5, .inl rKind)), (rRoomA, .inl (D.1 7, 5, .inl rRoom)), (rChargeA, .inl (D.1 7, 5, .inl rCharge)), (rLeakA, .inl (D.1 7, 5, .inl rLeak)), (rPlanA, .inl (D.1 7, 16, .inl rPlan))] := j_met (cc := cX2_agrees) (nl := 4) (rt := (some .boolean)) (own := RX2) (lv := [(0, .ref e0), (1, .int v1), (2, .ref r0)]) (by decide +kernel) rfl rfl rfl (Nat.le_of_ble_eq_true rfl) (fun G C => t_X2_agrees_0 C hf)

