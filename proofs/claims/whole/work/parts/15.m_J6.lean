-- J6_bitCount_0f7a4
theorem ld_J6_bitCount_0f7a4_265 : Cond.constant RJ6 265 1431655765 ∈ wsJ6_bitCount_0f7a4 := by decide +kernel
theorem ld_J6_bitCount_0f7a4_266 : Cond.constant RJ6 266 858993459 ∈ wsJ6_bitCount_0f7a4 := by decide +kernel
theorem ld_J6_bitCount_0f7a4_267 : Cond.constant RJ6 267 252645135 ∈ wsJ6_bitCount_0f7a4 := by decide +kernel
set_option maxHeartbeats 4000000 in
set_option maxRecDepth 100000 in
theorem t_J6_bitCount_0f7a4_0 {G : jX} {D : va_G} {v0 : Int32} {oR : Int32} (C : KC G D cJ6_bitCount_0f7a4 RJ6 wsJ6_bitCount_0f7a4 ({ frames := 0, cells := 0, slots := 0, locals := 0 } : Room) 1 (some .int) (some (.int oR)) []) (hf : f_J6_bitCount_0f7a4 v0 = some oR) : JW G D 0 [(0, .int v0)] [] [] := by
  unfold f_J6_bitCount_0f7a4 at hf
  refine j_iload_n (pc := 0) C 0 rfl dJ6_bitCount_0f7a4_0 ?_
  refine j_iload_n (pc := 1) C 0 rfl dJ6_bitCount_0f7a4_1 ?_
  refine j_iconst (pc := 2) 1 C (by decide) dJ6_bitCount_0f7a4_2 ?_
  refine j_iushr (pc := 3) C dJ6_bitCount_0f7a4_3 ?_
  refine j_ldcw (pc := 4) C ld_J6_bitCount_0f7a4_265 dJ6_bitCount_0f7a4_4 ?_
  refine j_iand (pc := 7) C dJ6_bitCount_0f7a4_7 ?_
  refine j_isub (pc := 8) C dJ6_bitCount_0f7a4_8 ?_
  refine j_bdi hf (fun y_1 hf => ?_)
  refine j_istore_n (pc := 9) 0 [(0, .int y_1)] [0] C rfl (by decide) rfl dJ6_bitCount_0f7a4_9 ?_
  refine j_iload_n (pc := 10) C 0 rfl dJ6_bitCount_0f7a4_10 ?_
  refine j_ldcw (pc := 11) C ld_J6_bitCount_0f7a4_266 dJ6_bitCount_0f7a4_11 ?_
  refine j_iand (pc := 14) C dJ6_bitCount_0f7a4_14 ?_
  refine j_iload_n (pc := 15) C 0 rfl dJ6_bitCount_0f7a4_15 ?_
  refine j_iconst (pc := 16) 2 C (by decide) dJ6_bitCount_0f7a4_16 ?_
  refine j_iushr (pc := 17) C dJ6_bitCount_0f7a4_17 ?_
  refine j_ldcw (pc := 18) C ld_J6_bitCount_0f7a4_266 dJ6_bitCount_0f7a4_18 ?_
  refine j_iand (pc := 21) C dJ6_bitCount_0f7a4_21 ?_
  refine j_iadd (pc := 22) C dJ6_bitCount_0f7a4_22 ?_
  refine j_bdi hf (fun y_2 hf => ?_)
  refine j_istore_n (pc := 23) 0 [(0, .int y_2)] [0] C rfl (by decide) rfl dJ6_bitCount_0f7a4_23 ?_
  refine j_iload_n (pc := 24) C 0 rfl dJ6_bitCount_0f7a4_24 ?_
  refine j_iload_n (pc := 25) C 0 rfl dJ6_bitCount_0f7a4_25 ?_
  refine j_iconst (pc := 26) 4 C (by decide) dJ6_bitCount_0f7a4_26 ?_
  refine j_iushr (pc := 27) C dJ6_bitCount_0f7a4_27 ?_
  refine j_iadd (pc := 28) C dJ6_bitCount_0f7a4_28 ?_
  refine j_ldcw (pc := 29) C ld_J6_bitCount_0f7a4_267 dJ6_bitCount_0f7a4_29 ?_
  refine j_iand (pc := 32) C dJ6_bitCount_0f7a4_32 ?_
  refine j_bdi hf (fun y_3 hf => ?_)
  refine j_istore_n (pc := 33) 0 [(0, .int y_3)] [0] C rfl (by decide) rfl dJ6_bitCount_0f7a4_33 ?_
  refine j_iload_n (pc := 34) C 0 rfl dJ6_bitCount_0f7a4_34 ?_
  refine j_iload_n (pc := 35) C 0 rfl dJ6_bitCount_0f7a4_35 ?_
  refine j_bipush (pc := 36) 8 C (by decide) dJ6_bitCount_0f7a4_36 ?_
  refine j_iushr (pc := 38) C dJ6_bitCount_0f7a4_38 ?_
  refine j_iadd (pc := 39) C dJ6_bitCount_0f7a4_39 ?_
  refine j_bdi hf (fun y_4 hf => ?_)
  refine j_istore_n (pc := 40) 0 [(0, .int y_4)] [0] C rfl (by decide) rfl dJ6_bitCount_0f7a4_40 ?_
  refine j_iload_n (pc := 41) C 0 rfl dJ6_bitCount_0f7a4_41 ?_
  refine j_iload_n (pc := 42) C 0 rfl dJ6_bitCount_0f7a4_42 ?_
  refine j_bipush (pc := 43) 16 C (by decide) dJ6_bitCount_0f7a4_43 ?_
  refine j_iushr (pc := 45) C dJ6_bitCount_0f7a4_45 ?_
  refine j_iadd (pc := 46) C dJ6_bitCount_0f7a4_46 ?_
  refine j_bdi hf (fun y_5 hf => ?_)
  refine j_istore_n (pc := 47) 0 [(0, .int y_5)] [0] C rfl (by decide) rfl dJ6_bitCount_0f7a4_47 ?_
  refine j_iload_n (pc := 48) C 0 rfl dJ6_bitCount_0f7a4_48 ?_
  refine j_bipush (pc := 49) 63 C (by decide) dJ6_bitCount_0f7a4_49 ?_
  refine j_iand (pc := 51) C dJ6_bitCount_0f7a4_51 ?_
  obtain rfl := si1 hf
  exact j_iret (pc := 52) C dJ6_bitCount_0f7a4_52
theorem k_J6_bitCount_0f7a4 : CK yJ6_bitCount_0f7a4 wsJ6_bitCount_0f7a4 cJ6_bitCount_0f7a4 1 (some .int) 1 := ⟨rfl, by decide +kernel⟩
theorem c_J6_bitCount_0f7a4 (D : va_G) (v0 : Int32) (oR : Int32) (hf : f_J6_bitCount_0f7a4 v0 = some oR) : ∀ l, MW l yJ6_bitCount_0f7a4 wsJ6_bitCount_0f7a4 ({ frames := 0, cells := 0, slots := 0, locals := 0 } : Room) D [.int v0] [] (some (.int oR)) [] := j_met (cc := cJ6_bitCount_0f7a4) (nl := 1) (rt := (some .int)) (own := RJ6) (lv := [(0, .int v0)]) (by decide +kernel) rfl rfl rfl (Nat.le_of_ble_eq_true rfl) (fun G C => t_J6_bitCount_0f7a4_0 C hf)

