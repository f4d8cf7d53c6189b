-- X3_becomesNew
theorem fl_X3_becomesNew_15 : Cond.fieldLink RX3 15 "CellsInRow$Sheet" "there" "Z" ∈ wsX3_becomesNew := by decide +kernel
theorem iw_X3_becomesNew_X3 : ∀ w ∈ wsX30, w ∈ wsX3_becomesNew := by decide +kernel
theorem fl_X3_becomesNew_19 : Cond.fieldLink RX3 19 "CellsInRow$Sheet" "lane" "I" ∈ wsX3_becomesNew := by decide +kernel
theorem fl_X3_becomesNew_23 : Cond.fieldLink RX3 23 "CellsInRow$Sheet" "length" "I" ∈ wsX3_becomesNew := by decide +kernel
theorem fl_X3_becomesNew_9 : Cond.fieldLink RX3 9 "CellsInRow$Sheet" "places" "[I" ∈ wsX3_becomesNew := by decide +kernel
set_option maxHeartbeats 4000000 in
set_option maxRecDepth 100000 in
theorem t_X3_becomesNew_17 {G : jX} {D : va_G} {h0 hPlacesA : Nat} {hThere : Int32} {hLane : Int32} {hLength : Int32} {oHThere : Int32} {oHLane : Int32} {oHLength : Int32} {oHPlaces : Nat → Int32} (C : KC G D cX3_becomesNew RX3 wsX3_becomesNew ({ frames := 0, cells := 0, slots := 0, locals := 0 } : Room) 4 none none [(h0, .inr (3, [.int oHThere, .int oHLane, .int oHLength, .ref hPlacesA])), (hPlacesA, .inl (D.1 7, 40, .inl oHPlaces))]) : ∀ (n : Nat) (v3 : Int32) (hPlaces : Nat → Int32), f_X3_becomesNew_17 hThere hLane hLength n v3 hPlaces = some (oHThere, oHLane, oHLength, oHPlaces) → JW G D 17 [(0, .ref h0), (3, .int v3)] [] [(h0, .inr (3, [.int hThere, .int hLane, .int hLength, .ref hPlacesA])), (hPlacesA, .inl (D.1 7, 40, .inl hPlaces))] := by
  intro n
  induction n with
  | zero => intro _ _ hf; rw [f_X3_becomesNew_17] at hf; cases hf
  | succ n ih =>
    intro v3 hPlaces hf
    rw [f_X3_becomesNew_17] at hf
    refine j_iload_n (pc := 17) C 1 rfl dX3_becomesNew_17 ?_
    refine j_bipush (pc := 18) 40 C (by decide) dX3_becomesNew_18 ?_
    refine j_icmp_ge (pc := 20) 36 C hf (by decide) dX3_becomesNew_20 (fun hf => ?_) (fun hf => ?_)
    · obtain ⟨rfl, rfl, rfl, rfl⟩ := si4 hf
      exact j_vret (pc := 36) C dX3_becomesNew_36
    · refine j_aload_n (pc := 23) C 0 rfl dX3_becomesNew_23 ?_
      refine j_get (pc := 24) 0 3 3 C iw_X3_becomesNew_X3 rfl rfl (by decide) fl_X3_becomesNew_9 rfl rfl dX3_becomesNew_24 ?_
      refine j_iload_n (pc := 27) C 1 rfl dX3_becomesNew_27 ?_
      refine j_iconst (pc := 28) 0 C (by decide) dX3_becomesNew_28 ?_
      refine j_iast (pc := 29) 1 [(h0, .inr (3, [.int hThere, .int hLane, .int hLength, .ref hPlacesA])), (hPlacesA, .inl (D.1 7, 40, .inl (upd hPlaces v3.toNatClampNeg 0)))] C rfl rfl hf dX3_becomesNew_29 (fun hf => ?_)
      refine j_iinc (pc := 30) (v3 + 1) 3 1 [(0, .ref h0), (3, .int (v3 + 1))] [1, 0] C rfl (by rfl) (by decide) rfl dX3_becomesNew_30 ?_
      refine j_goto (pc := 33) 17 C (by decide) dX3_becomesNew_33 ?_
      exact ih _ _ hf
set_option maxHeartbeats 4000000 in
set_option maxRecDepth 100000 in
theorem t_X3_becomesNew_0 {G : jX} {D : va_G} {h0 hPlacesA : Nat} {v1 : Int32} {v2 : Int32} {hThere : Int32} {hLane : Int32} {hLength : Int32} {hPlaces : Nat → Int32} {oHThere : Int32} {oHLane : Int32} {oHLength : Int32} {oHPlaces : Nat → Int32} (C : KC G D cX3_becomesNew RX3 wsX3_becomesNew ({ frames := 0, cells := 0, slots := 0, locals := 0 } : Room) 4 none none [(h0, .inr (3, [.int oHThere, .int oHLane, .int oHLength, .ref hPlacesA])), (hPlacesA, .inl (D.1 7, 40, .inl oHPlaces))]) (hf : f_X3_becomesNew v1 v2 hThere hLane hLength hPlaces = some (oHThere, oHLane, oHLength, oHPlaces)) : JW G D 0 [(0, .ref h0), (1, .int v1), (2, .int v2)] [] [(h0, .inr (3, [.int hThere, .int hLane, .int hLength, .ref hPlacesA])), (hPlacesA, .inl (D.1 7, 40, .inl hPlaces))] := by
  unfold f_X3_becomesNew at hf
  refine j_aload_n (pc := 0) C 0 rfl dX3_becomesNew_0 ?_
  refine j_iconst (pc := 1) 1 C (by decide) dX3_becomesNew_1 ?_
  have hz : (1 : Int32) = 0 ∨ (1 : Int32) = 1 := by decide
  refine j_put (pc := 2) (ty := .boolean) 0 3 0 [(h0, .inr (3, [.int 1, .int hLane, .int hLength, .ref hPlacesA])), (hPlacesA, .inl (D.1 7, 40, .inl hPlaces))] C iw_X3_becomesNew_X3 tyX3 tyX3_ok nmX3 rfl rfl (by decide) fl_X3_becomesNew_15 rfl rfl rfl (nar_z hz) (fit_z hz) (Nat.le_of_ble_eq_true rfl) rfl dX3_becomesNew_2 ?_
  refine j_aload_n (pc := 5) C 0 rfl dX3_becomesNew_5 ?_
  refine j_iload_n (pc := 6) C 1 rfl dX3_becomesNew_6 ?_
  refine j_put (pc := 7) (ty := .int) 0 3 1 [(h0, .inr (3, [.int 1, .int v1, .int hLength, .ref hPlacesA])), (hPlacesA, .inl (D.1 7, 40, .inl hPlaces))] C iw_X3_becomesNew_X3 tyX3 tyX3_ok nmX3 rfl rfl (by decide) fl_X3_becomesNew_19 rfl rfl rfl rfl rfl (Nat.le_of_ble_eq_true rfl) rfl dX3_becomesNew_7 ?_
  refine j_aload_n (pc := 10) C 0 rfl dX3_becomesNew_10 ?_
  refine j_iload_n (pc := 11) C 2 rfl dX3_becomesNew_11 ?_
  refine j_put (pc := 12) (ty := .int) 0 3 2 [(h0, .inr (3, [.int 1, .int v1, .int v2, .ref hPlacesA])), (hPlacesA, .inl (D.1 7, 40, .inl hPlaces))] C iw_X3_becomesNew_X3 tyX3 tyX3_ok nmX3 rfl rfl (by decide) fl_X3_becomesNew_23 rfl rfl rfl rfl rfl (Nat.le_of_ble_eq_true rfl) rfl dX3_becomesNew_12 ?_
  refine j_iconst (pc := 15) 0 C (by decide) dX3_becomesNew_15 ?_
  refine j_istore_n (pc := 16) 3 [(0, .ref h0), (1, .int v1), (2, .int v2), (3, .int 0)] [1, 2, 3, 0] C rfl (by decide) rfl dX3_becomesNew_16 ?_
  refine j_lv [(0, .ref h0), (3, .int 0)] [0, 3] rfl ?_
  exact t_X3_becomesNew_17 C 1000 _ _ hf
theorem k_X3_becomesNew : CK yX3_becomesNew wsX3_becomesNew cX3_becomesNew 4 none 2 := ⟨rfl, by decide +kernel⟩
theorem c_X3_becomesNew (D : va_G) (h0 hPlacesA : Nat) (v1 : Int32) (v2 : Int32) (hThere : Int32) (hLane : Int32) (hLength : Int32) (hPlaces : Nat → Int32) (oHThere : Int32) (oHLane : Int32) (oHLength : Int32) (oHPlaces : Nat → Int32) (hf : f_X3_becomesNew v1 v2 hThere hLane hLength hPlaces = some (oHThere, oHLane, oHLength, oHPlaces)) : ∀ l, MW l yX3_becomesNew wsX3_becomesNew ({ frames := 0, cells := 0, slots := 0, locals := 0 } : Room) D [.ref h0, .int v1, .int v2] [(h0, .inr (3, [.int hThere, .int hLane, .int hLength, .ref hPlacesA])), (hPlacesA, .inl (D.1 7, 40, .inl hPlaces))] none [(h0, .inr (3, [.int oHThere, .int oHLane, .int oHLength, .ref hPlacesA])), (hPlacesA, .inl (D.1 7, 40, .inl oHPlaces))] := j_met (cc := cX3_becomesNew) (nl := 4) (rt := none) (own := RX3) (lv := [(0, .ref h0), (1, .int v1), (2, .int v2)]) (by decide +kernel) rfl rfl rfl (Nat.le_of_ble_eq_true rfl) (fun G C => t_X3_becomesNew_0 C hf)

-- X3_lowestBits
theorem fl_X3_lowestBits_19 : Cond.fieldLink RX3 19 "CellsInRow$Sheet" "lane" "I" ∈ wsX3_lowestBits := by decide +kernel
theorem iw_X3_lowestBits_X3 : ∀ w ∈ wsX30, w ∈ wsX3_lowestBits := by decide +kernel
set_option maxHeartbeats 4000000 in
set_option maxRecDepth 100000 in
theorem t_X3_lowestBits_0 {G : jX} {D : va_G} {h0 hPlacesA : Nat} {v1 : Int32} {hThere : Int32} {hLane : Int32} {hLength : Int32} {hPlaces : Nat → Int32} {oR : Int32} (C : KC G D cX3_lowestBits RX3 wsX3_lowestBits ({ frames := 0, cells := 0, slots := 0, locals := 0 } : Room) 2 (some .int) (some (.int oR)) [(h0, .inr (3, [.int hThere, .int hLane, .int hLength, .ref hPlacesA])), (hPlacesA, .inl (D.1 7, 40, .inl hPlaces))]) (hf : f_X3_lowestBits v1 hLane = some oR) : JW G D 0 [(0, .ref h0), (1, .int v1)] [] [(h0, .inr (3, [.int hThere, .int hLane, .int hLength, .ref hPlacesA])), (hPlacesA, .inl (D.1 7, 40, .inl hPlaces))] := by
  unfold f_X3_lowestBits at hf
  refine j_aload_n (pc := 0) C 0 rfl dX3_lowestBits_0 ?_
  refine j_get (pc := 1) 0 3 1 C iw_X3_lowestBits_X3 rfl rfl (by decide) fl_X3_lowestBits_19 rfl rfl dX3_lowestBits_1 ?_
  refine j_if_ne (pc := 4) 12 C hf (by decide) dX3_lowestBits_4 (fun hf => ?_) (fun hf => ?_)
  · refine j_aload_n (pc := 12) C 0 rfl dX3_lowestBits_12 ?_
    refine j_get (pc := 13) 0 3 1 C iw_X3_lowestBits_X3 rfl rfl (by decide) fl_X3_lowestBits_19 rfl rfl dX3_lowestBits_13 ?_
    refine j_iconst (pc := 16) 1 C (by decide) dX3_lowestBits_16 ?_
    refine j_icmp_ne (pc := 17) 25 C hf (by decide) dX3_lowestBits_17 (fun hf => ?_) (fun hf => ?_)
    · refine j_iload_n (pc := 25) C 1 rfl dX3_lowestBits_25 ?_
      obtain rfl := si1 hf
      exact j_iret (pc := 26) C dX3_lowestBits_26
    · refine j_iload_n (pc := 20) C 1 rfl dX3_lowestBits_20 ?_
      refine j_i2s (pc := 21) C dX3_lowestBits_21 ?_
      refine j_goto (pc := 22) 26 C (by decide) dX3_lowestBits_22 ?_
      obtain rfl := si1 hf
      exact j_iret (pc := 26) C dX3_lowestBits_26
  · refine j_iload_n (pc := 7) C 1 rfl dX3_lowestBits_7 ?_
    refine j_i2b (pc := 8) C dX3_lowestBits_8 ?_
    refine j_goto (pc := 9) 26 C (by decide) dX3_lowestBits_9 ?_
    obtain rfl := si1 hf
    exact j_iret (pc := 26) C dX3_lowestBits_26
theorem k_X3_lowestBits : CK yX3_lowestBits wsX3_lowestBits cX3_lowestBits 2 (some .int) 1 := ⟨rfl, by decide +kernel⟩
theorem c_X3_lowestBits (D : va_G) (h0 hPlacesA : Nat) (v1 : Int32) (hThere : Int32) (hLane : Int32) (hLength : Int32) (hPlaces : Nat → Int32) (oR : Int32) (hf : f_X3_lowestBits v1 hLane = some oR) : ∀ l, MW l yX3_lowestBits wsX3_lowestBits ({ frames := 0, cells := 0, slots := 0, locals := 0 } : Room) D [.ref h0, .int v1] [(h0, .inr (3, [.int hThere, .int hLane, .int hLength, .ref hPlacesA])), (hPlacesA, .inl (D.1 7, 40, .inl hPlaces))] (some (.int oR)) [(h0, .inr (3, [.int hThere, .int hLane, .int hLength, .ref hPlacesA])), (hPlacesA, .inl (D.1 7, 40, .inl hPlaces))] := j_met (cc := cX3_lowestBits) (nl := 2) (rt := (some .int)) (own := RX3) (lv := [(0, .ref h0), (1, .int v1)]) (by decide +kernel) rfl rfl rfl (Nat.le_of_ble_eq_true rfl) (fun G C => t_X3_lowestBits_0 C hf)

-- X3_wholePairs
theorem fl_X3_wholePairs_15 : Cond.fieldLink RX3 15 "CellsInRow$Sheet" "there" "Z" ∈ wsX3_wholePairs := by decide +kernel
theorem iw_X3_wholePairs_X3 : ∀ w ∈ wsX30, w ∈ wsX3_wholePairs := by decide +kernel
theorem fl_X3_wholePairs_19 : Cond.fieldLink RX3 19 "CellsInRow$Sheet" "lane" "I" ∈ wsX3_wholePairs := by decide +kernel
theorem fl_X3_wholePairs_23 : Cond.fieldLink RX3 23 "CellsInRow$Sheet" "length" "I" ∈ wsX3_wholePairs := by decide +kernel
theorem mm_X3_wholePairs_min : Cond.methodLink RX3 26 Lib.Math.min.name ∈ wsX3_wholePairs ∧ Cond.static Lib.Math.min.name ∈ wsX3_wholePairs ∧ Cond.initialized "java/lang/Math" ∈ wsX3_wholePairs ∧ Cond.code Lib.Math.min.name Lib.Math.min.code 2 (some .int) ∈ wsX3_wholePairs := by decide +kernel
set_option maxHeartbeats 4000000 in
set_option maxRecDepth 100000 in
theorem t_X3_wholePairs_0 {G : jX} {D : va_G} {h0 hPlacesA : Nat} {v1 : Int32} {v2 : Int32} {v3 : Int32} {hThere : Int32} {hLane : Int32} {hLength : Int32} {hPlaces : Nat → Int32} {oR : Int32} (C : KC G D cX3_wholePairs RX3 wsX3_wholePairs ({ frames := 1, cells := 0, slots := 0, locals := 13 } : Room) 4 (some .int) (some (.int oR)) [(h0, .inr (3, [.int hThere, .int hLane, .int hLength, .ref hPlacesA])), (hPlacesA, .inl (D.1 7, 40, .inl hPlaces))]) (hf : f_X3_wholePairs v1 v2 v3 hThere hLane hLength = some oR) : JW G D 0 [(0, .ref h0), (1, .int v1), (2, .int v2), (3, .int v3)] [] [(h0, .inr (3, [.int hThere, .int hLane, .int hLength, .ref hPlacesA])), (hPlacesA, .inl (D.1 7, 40, .inl hPlaces))] := by
  unfold f_X3_wholePairs at hf
  refine j_aload_n (pc := 0) C 0 rfl dX3_wholePairs_0 ?_
  refine j_get (pc := 1) 0 3 0 C iw_X3_wholePairs_X3 rfl rfl (by decide) fl_X3_wholePairs_15 rfl rfl dX3_wholePairs_1 ?_
  refine j_if_eq (pc := 4) 27 C hf (by decide) dX3_wholePairs_4 (fun hf => ?_) (fun hf => ?_)
  · refine j_iconst (pc := 27) 0 C (by decide) dX3_wholePairs_27 ?_
    obtain rfl := si1 hf
    exact j_iret (pc := 28) C dX3_wholePairs_28
  · refine j_aload_n (pc := 7) C 0 rfl dX3_wholePairs_7 ?_
    refine j_get (pc := 8) 0 3 1 C iw_X3_wholePairs_X3 rfl rfl (by decide) fl_X3_wholePairs_19 rfl rfl dX3_wholePairs_8 ?_
    refine j_iload_n (pc := 11) C 1 rfl dX3_wholePairs_11 ?_
    refine j_icmp_ne (pc := 12) 27 C hf (by decide) dX3_wholePairs_12 (fun hf => ?_) (fun hf => ?_)
    · refine j_iconst (pc := 27) 0 C (by decide) dX3_wholePairs_27 ?_
      obtain rfl := si1 hf
      exact j_iret (pc := 28) C dX3_wholePairs_28
    · refine j_iload_n (pc := 15) C 2 rfl dX3_wholePairs_15 ?_
      refine j_if_lt (pc := 16) 27 C hf (by decide) dX3_wholePairs_16 (fun hf => ?_) (fun hf => ?_)
      · refine j_iconst (pc := 27) 0 C (by decide) dX3_wholePairs_27 ?_
        obtain rfl := si1 hf
        exact j_iret (pc := 28) C dX3_wholePairs_28
      · refine j_iload_n (pc := 19) C 2 rfl dX3_wholePairs_19 ?_
        refine j_aload_n (pc := 20) C 0 rfl dX3_wholePairs_20 ?_
        refine j_get (pc := 21) 0 3 2 C iw_X3_wholePairs_X3 rfl rfl (by decide) fl_X3_wholePairs_23 rfl rfl dX3_wholePairs_21 ?_
        refine j_icmp_lt (pc := 24) 29 C hf (by decide) dX3_wholePairs_24 (fun hf => ?_) (fun hf => ?_)
        · refine j_iload_n (pc := 29) C 3 rfl dX3_wholePairs_29 ?_
          refine j_aload_n (pc := 30) C 0 rfl dX3_wholePairs_30 ?_
          refine j_get (pc := 31) 0 3 2 C iw_X3_wholePairs_X3 rfl rfl (by decide) fl_X3_wholePairs_23 rfl rfl dX3_wholePairs_31 ?_
          refine j_iload_n (pc := 34) C 2 rfl dX3_wholePairs_34 ?_
          refine j_isub (pc := 35) C dX3_wholePairs_35 ?_
          refine j_iconst (pc := 36) 2 C (by decide) dX3_wholePairs_36 ?_
          refine j_idiv (pc := 37) C (by decide) dX3_wholePairs_37 ?_
          refine j_mmin (pc := 38) C mm_X3_wholePairs_min.1 mm_X3_wholePairs_min.2.1 mm_X3_wholePairs_min.2.2.1 mm_X3_wholePairs_min.2.2.2 (by decide) (Nat.le_of_ble_eq_true rfl) dX3_wholePairs_38 ?_
          obtain rfl := si1 hf
          exact j_iret (pc := 41) C dX3_wholePairs_41
        · refine j_iconst (pc := 27) 0 C (by decide) dX3_wholePairs_27 ?_
          obtain rfl := si1 hf
          exact j_iret (pc := 28) C dX3_wholePairs_28
theorem k_X3_wholePairs : CK yX3_wholePairs wsX3_wholePairs cX3_wholePairs 4 (some .int) 3 := ⟨rfl, by decide +kernel⟩
theorem c_X3_wholePairs (D : va_G) (h0 hPlacesA : Nat) (v1 : Int32) (v2 : Int32) (v3 : Int32) (hThere : Int32) (hLane : Int32) (hLength : Int32) (hPlaces : Nat → Int32) (oR : Int32) (hf : f_X3_wholePairs v1 v2 v3 hThere hLane hLength = some oR) : ∀ l, MW l yX3_wholePairs wsX3_wholePairs ({ frames := 1, cells := 0, slots := 0, locals := 13 } : Room) D [.ref h0, .int v1, .int v2, .int v3] [(h0, .inr (3, [.int hThere, .int hLane, .int hLength, .ref hPlacesA])), (hPlacesA, .inl (D.1 7, 40, .inl hPlaces))] (some (.int oR)) [(h0, .inr (3, [.int hThere, .int hLane, .int hLength, .ref hPlacesA])), (hPlacesA, .inl (D.1 7, 40, .inl hPlaces))] := j_met (cc := cX3_wholePairs) (nl := 4) (rt := (some .int)) (own := RX3) (lv := [(0, .ref h0), (1, .int v1), (2, .int v2), (3, .int v3)]) (by decide +kernel) rfl rfl rfl (Nat.le_of_ble_eq_true rfl) (fun G C => t_X3_wholePairs_0 C hf)

-- X3_tornBy
theorem fl_X3_tornBy_15 : Cond.fieldLink RX3 15 "CellsInRow$Sheet" "there" "Z" ∈ wsX3_tornBy := by decide +kernel
theorem iw_X3_tornBy_X3 : ∀ w ∈ wsX30, w ∈ wsX3_tornBy := by decide +kernel
theorem fl_X3_tornBy_19 : Cond.fieldLink RX3 19 "CellsInRow$Sheet" "lane" "I" ∈ wsX3_tornBy := by decide +kernel
set_option maxHeartbeats 4000000 in
set_option maxRecDepth 100000 in
theorem t_X3_tornBy_0 {G : jX} {D : va_G} {h0 hPlacesA : Nat} {v1 : Int32} {v2 : Int32} {v3 : Int32} {hThere : Int32} {hLane : Int32} {hLength : Int32} {hPlaces : Nat → Int32} {oR : Int32} (C : KC G D cX3_tornBy RX3 wsX3_tornBy ({ frames := 0, cells := 0, slots := 0, locals := 0 } : Room) 4 (some .int) (some (.int oR)) [(h0, .inr (3, [.int hThere, .int hLane, .int hLength, .ref hPlacesA])), (hPlacesA, .inl (D.1 7, 40, .inl hPlaces))]) (hf : f_X3_tornBy v1 v2 v3 hThere hLane = some oR) : JW G D 0 [(0, .ref h0), (1, .int v1), (2, .int v2), (3, .int v3)] [] [(h0, .inr (3, [.int hThere, .int hLane, .int hLength, .ref hPlacesA])), (hPlacesA, .inl (D.1 7, 40, .inl hPlaces))] := by
  unfold f_X3_tornBy at hf
  refine j_iload_n (pc := 0) C 2 rfl dX3_tornBy_0 ?_
  refine j_iload_n (pc := 1) C 3 rfl dX3_tornBy_1 ?_
  refine j_icmp_ne (pc := 2) 7 C hf (by decide) dX3_tornBy_2 (fun hf => ?_) (fun hf => ?_)
  · refine j_aload_n (pc := 7) C 0 rfl dX3_tornBy_7 ?_
    refine j_get (pc := 8) 0 3 0 C iw_X3_tornBy_X3 rfl rfl (by decide) fl_X3_tornBy_15 rfl rfl dX3_tornBy_8 ?_
    refine j_if_ne (pc := 11) 16 C hf (by decide) dX3_tornBy_11 (fun hf => ?_) (fun hf => ?_)
    · refine j_aload_n (pc := 16) C 0 rfl dX3_tornBy_16 ?_
      refine j_get (pc := 17) 0 3 1 C iw_X3_tornBy_X3 rfl rfl (by decide) fl_X3_tornBy_19 rfl rfl dX3_tornBy_17 ?_
      refine j_iload_n (pc := 20) C 1 rfl dX3_tornBy_20 ?_
      refine j_icmp_eq (pc := 21) 28 C hf (by decide) dX3_tornBy_21 (fun hf => ?_) (fun hf => ?_)
      · refine j_iconst (pc := 28) 2 C (by decide) dX3_tornBy_28 ?_
        obtain rfl := si1 hf
        exact j_iret (pc := 29) C dX3_tornBy_29
      · refine j_iconst (pc := 24) 3 C (by decide) dX3_tornBy_24 ?_
        refine j_goto (pc := 25) 29 C (by decide) dX3_tornBy_25 ?_
        obtain rfl := si1 hf
        exact j_iret (pc := 29) C dX3_tornBy_29
    · refine j_iconst (pc := 14) 1 C (by decide) dX3_tornBy_14 ?_
      obtain rfl := si1 hf
      exact j_iret (pc := 15) C dX3_tornBy_15
  · refine j_iconst (pc := 5) 0 C (by decide) dX3_tornBy_5 ?_
    obtain rfl := si1 hf
    exact j_iret (pc := 6) C dX3_tornBy_6
theorem k_X3_tornBy : CK yX3_tornBy wsX3_tornBy cX3_tornBy 4 (some .int) 3 := ⟨rfl, by decide +kernel⟩
theorem c_X3_tornBy (D : va_G) (h0 hPlacesA : Nat) (v1 : Int32) (v2 : Int32) (v3 : Int32) (hThere : Int32) (hLane : Int32) (hLength : Int32) (hPlaces : Nat → Int32) (oR : Int32) (hf : f_X3_tornBy v1 v2 v3 hThere hLane = some oR) : ∀ l, MW l yX3_tornBy wsX3_tornBy ({ frames := 0, cells := 0, slots := 0, locals := 0 } : Room) D [.ref h0, .int v1, .int v2, .int v3] [(h0, .inr (3, [.int hThere, .int hLane, .int hLength, .ref hPlacesA])), (hPlacesA, .inl (D.1 7, 40, .inl hPlaces))] (some (.int oR)) [(h0, .inr (3, [.int hThere, .int hLane, .int hLength, .ref hPlacesA])), (hPlacesA, .inl (D.1 7, 40, .inl hPlaces))] := j_met (cc := cX3_tornBy) (nl := 4) (rt := (some .int)) (own := RX3) (lv := [(0, .ref h0), (1, .int v1), (2, .int v2), (3, .int v3)]) (by decide +kernel) rfl rfl rfl (Nat.le_of_ble_eq_true rfl) (fun G C => t_X3_tornBy_0 C hf)

