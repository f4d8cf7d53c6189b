set_option maxHeartbeats 4000000 in
theorem l_case {b L : Nat} {xs : Nat → Int32} {aK aV : Nat → Nat} {G : jX} {D : va_G} {a : Nat → Nat} {imF shF crF : Nat → Option Nat} {I : Nat} (C : KQ (lawZ b L xs aK aV) G D cL_law RL wsL_law room_1 4) (hE : LE a imF shF crF) (hI : I + 5 ≤ L) (hL : L ≤ 2560) {w : va_W} (h : LI D a imF shF crF w) (k : ∀ w, LI D a imF shF crF w → JW G D 1272 [(0, .ref b), (1, .ref (a 0)), (2, .ref (a 68)), (3, .int (nI I))] [] w) : JW G D 26 [(0, .ref b), (1, .ref (a 0)), (2, .ref (a 68)), (3, .int (nI I))] [] w := by
  refine l_arg0 (v := xs I) (q0 := 0) (q3 := 3) C hI hL rfl rfl rfl dL_law_26 dL_law_27 dL_law_28 ?_
  refine j_bipush 63 C (by decide) dL_law_29 ?_
  refine j_iand C dL_law_31 ?_
  generalize xs I &&& 63 = y
  by_cases c0 : y = 0
  · exact j_tbl 192 0 C (by rw [c0]; rfl) (by decide) rfl (by decide) dL_law_32 (lc_feed C hE hI hL rfl h k)
  by_cases c1 : y = 1
  · exact j_tbl 215 1 C (by rw [c1]; rfl) (by decide) rfl (by decide) dL_law_32 (lc_end C hE hI hL rfl h k)
  by_cases c2 : y = 2
  · exact j_tbl 238 2 C (by rw [c2]; rfl) (by decide) rfl (by decide) dL_law_32 (lc_text C hE hI hL h k)
  by_cases c3 : y = 3
  · exact j_tbl 251 3 C (by rw [c3]; rfl) (by decide) rfl (by decide) dL_law_32 (lc_fault C hE hI hL h k)
  by_cases c4 : y = 4
  · exact j_tbl 264 4 C (by rw [c4]; rfl) (by decide) rfl (by decide) dL_law_32 (lc_rule C hE hI hL rfl h k)
  by_cases c5 : y = 5
  · exact j_tbl 287 5 C (by rw [c5]; rfl) (by decide) rfl (by decide) dL_law_32 (lc_unit C hE hI hL rfl rfl h k)
  by_cases c6 : y = 6
  · exact j_tbl 320 6 C (by rw [c6]; rfl) (by decide) rfl (by decide) dL_law_32 (lc_sign C hE hI hL rfl h k)
  by_cases c7 : y = 7
  · exact j_tbl 343 7 C (by rw [c7]; rfl) (by decide) rfl (by decide) dL_law_32 (lc_alter C hE hI hL rfl rfl rfl h k)
  by_cases c8 : y = 8
  · exact j_tbl 386 8 C (by rw [c8]; rfl) (by decide) rfl (by decide) dL_law_32 (lc_set C hE hI hL rfl rfl h k)
  by_cases c9 : y = 9
  · exact j_tbl 419 9 C (by rw [c9]; rfl) (by decide) rfl (by decide) dL_law_32 (lc_add C hE hI hL rfl h k)
  by_cases c10 : y = 10
  · exact j_tbl 442 10 C (by rw [c10]; rfl) (by decide) rfl (by decide) dL_law_32 (lc_cut C hE hI hL rfl h k)
  by_cases c11 : y = 11
  · exact j_tbl 465 11 C (by rw [c11]; rfl) (by decide) rfl (by decide) dL_law_32 (lc_send C hE hI hL rfl h k)
  by_cases c12 : y = 12
  · exact j_tbl 488 12 C (by rw [c12]; rfl) (by decide) rfl (by decide) dL_law_32 (lc_hours C hE hI hL rfl h k)
  by_cases c13 : y = 13
  · exact j_tbl 511 13 C (by rw [c13]; rfl) (by decide) rfl (by decide) dL_law_32 (lc_runs C hE hI hL rfl rfl h k)
  by_cases c14 : y = 14
  · exact j_tbl 544 14 C (by rw [c14]; rfl) (by decide) rfl (by decide) dL_law_32 (lc_ahead C hE hI hL rfl rfl h k)
  by_cases c15 : y = 15
  · exact j_tbl 577 15 C (by rw [c15]; rfl) (by decide) rfl (by decide) dL_law_32 (lc_when C hE hI hL h k)
  by_cases c16 : y = 16
  · exact j_tbl 590 16 C (by rw [c16]; rfl) (by decide) rfl (by decide) dL_law_32 (lc_kind C hE hI hL rfl rfl rfl h k)
  by_cases c17 : y = 17
  · exact j_tbl 633 17 C (by rw [c17]; rfl) (by decide) rfl (by decide) dL_law_32 (lc_begin C hE hI hL rfl rfl rfl h k)
  by_cases c18 : y = 18
  · exact j_tbl 676 18 C (by rw [c18]; rfl) (by decide) rfl (by decide) dL_law_32 (lc_need C hE hI hL rfl rfl h k)
  by_cases c19 : y = 19
  · exact j_tbl 709 19 C (by rw [c19]; rfl) (by decide) rfl (by decide) dL_law_32 (lc_swap C hE hI hL rfl rfl h k)
  by_cases c20 : y = 20
  · exact j_tbl 742 20 C (by rw [c20]; rfl) (by decide) rfl (by decide) dL_law_32 (lc_bridge C hE hI hL rfl rfl h k)
  by_cases c21 : y = 21
  · exact j_tbl 775 21 C (by rw [c21]; rfl) (by decide) rfl (by decide) dL_law_32 (lc_luck C hE hI hL rfl rfl rfl h k)
  by_cases c22 : y = 22
  · exact j_tbl 819 22 C (by rw [c22]; rfl) (by decide) rfl (by decide) dL_law_32 (lc_mean C hE hI hL rfl rfl rfl h k)
  by_cases c23 : y = 23
  · exact j_tbl 863 23 C (by rw [c23]; rfl) (by decide) rfl (by decide) dL_law_32 (lc_see C hE hI hL rfl rfl rfl h k)
  by_cases c24 : y = 24
  · exact j_tbl 906 24 C (by rw [c24]; rfl) (by decide) rfl (by decide) dL_law_32 (lc_forget C hE hI hL rfl h k)
  by_cases c25 : y = 25
  · exact j_tbl 929 25 C (by rw [c25]; rfl) (by decide) rfl (by decide) dL_law_32 (lc_kinds C hE hI hL rfl h k)
  by_cases c26 : y = 26
  · exact j_tbl 952 26 C (by rw [c26]; rfl) (by decide) rfl (by decide) dL_law_32 (lc_leaks C hE hI hL rfl h k)
  by_cases c27 : y = 27
  · exact j_tbl 975 27 C (by rw [c27]; rfl) (by decide) rfl (by decide) dL_law_32 (lc_ask C hE hI hL rfl rfl h k)
  by_cases c28 : y = 28
  · exact j_tbl 1008 28 C (by rw [c28]; rfl) (by decide) rfl (by decide) dL_law_32 (lc_drift C hE hI hL rfl rfl rfl h k)
  by_cases c29 : y = 29
  · exact j_tbl 1051 29 C (by rw [c29]; rfl) (by decide) rfl (by decide) dL_law_32 (lc_keep C hE hI hL rfl h k)
  by_cases c30 : y = 30
  · exact j_tbl 1074 30 C (by rw [c30]; rfl) (by decide) rfl (by decide) dL_law_32 (lc_back C hE hI hL rfl h k)
  by_cases c31 : y = 31
  · exact j_tbl 1097 31 C (by rw [c31]; rfl) (by decide) rfl (by decide) dL_law_32 (lc_sheet C hE hI hL rfl rfl rfl h k)
  by_cases c32 : y = 32
  · exact j_tbl 1140 32 C (by rw [c32]; rfl) (by decide) rfl (by decide) dL_law_32 (lc_lay C hE hI hL rfl rfl rfl h k)
  by_cases c33 : y = 33
  · exact j_tbl 1183 33 C (by rw [c33]; rfl) (by decide) rfl (by decide) dL_law_32 (lc_read C hE hI hL rfl rfl rfl rfl h k)
  by_cases c34 : y = 34
  · exact j_tbl 1236 34 C (by rw [c34]; rfl) (by decide) rfl (by decide) dL_law_32 (lc_torn C hE hI hL h k)
  by_cases c35 : y = 35
  · exact j_tbl 1249 35 C (by rw [c35]; rfl) (by decide) rfl (by decide) dL_law_32 (lc_count C hE hI hL rfl h k)
  have e0 := lv_neT (a := 0) c0 (by decide)
  have e1 := lv_neT (a := 1) c1 (by decide)
  have e2 := lv_neT (a := 2) c2 (by decide)
  have e3 := lv_neT (a := 3) c3 (by decide)
  have e4 := lv_neT (a := 4) c4 (by decide)
  have e5 := lv_neT (a := 5) c5 (by decide)
  have e6 := lv_neT (a := 6) c6 (by decide)
  have e7 := lv_neT (a := 7) c7 (by decide)
  have e8 := lv_neT (a := 8) c8 (by decide)
  have e9 := lv_neT (a := 9) c9 (by decide)
  have e10 := lv_neT (a := 10) c10 (by decide)
  have e11 := lv_neT (a := 11) c11 (by decide)
  have e12 := lv_neT (a := 12) c12 (by decide)
  have e13 := lv_neT (a := 13) c13 (by decide)
  have e14 := lv_neT (a := 14) c14 (by decide)
  have e15 := lv_neT (a := 15) c15 (by decide)
  have e16 := lv_neT (a := 16) c16 (by decide)
  have e17 := lv_neT (a := 17) c17 (by decide)
  have e18 := lv_neT (a := 18) c18 (by decide)
  have e19 := lv_neT (a := 19) c19 (by decide)
  have e20 := lv_neT (a := 20) c20 (by decide)
  have e21 := lv_neT (a := 21) c21 (by decide)
  have e22 := lv_neT (a := 22) c22 (by decide)
  have e23 := lv_neT (a := 23) c23 (by decide)
  have e24 := lv_neT (a := 24) c24 (by decide)
  have e25 := lv_neT (a := 25) c25 (by decide)
  have e26 := lv_neT (a := 26) c26 (by decide)
  have e27 := lv_neT (a := 27) c27 (by decide)
  have e28 := lv_neT (a := 28) c28 (by decide)
  have e29 := lv_neT (a := 29) c29 (by decide)
  have e30 := lv_neT (a := 30) c30 (by decide)
  have e31 := lv_neT (a := 31) c31 (by decide)
  have e32 := lv_neT (a := 32) c32 (by decide)
  have e33 := lv_neT (a := 33) c33 (by decide)
  have e34 := lv_neT (a := 34) c34 (by decide)
  have e35 := lv_neT (a := 35) c35 (by decide)
  exact j_tbd 1272 C (by omega) (by decide) dL_law_32 (k w h)
theorem nI_m5 {n : Nat} (h : n < 2 ^ 31) : (nI n - 5).toInt = (n : Int) - 5 := by
  have e := nI_toInt h
  have z1 : (5 : Int32).toInt = 5 := rfl
  rw [i_sub (by omega) (by omega)]
  omega
section LL
variable {b L : Nat} {xs : Nat → Int32} {aK aV : Nat → Nat} {G : jX} {D : va_G} {a : Nat → Nat} {imF shF crF : Nat → Option Nat}
theorem l_exit {I : Nat} (C : KQ (lawZ b L xs aK aV) G D cL_law RL wsL_law room_1 4) (hL : L ≤ 2560) (hI : ¬ I + 5 ≤ L) (hI2 : I ≤ 2570) (w : va_W) : JW G D 18 [(0, .ref b), (1, .ref (a 0)), (2, .ref (a 68)), (3, .int (nI I))] [] w := by
  refine j_iload_n C 3 rfl dL_law_18 ?_
  refine j_aload_n C 0 rfl dL_law_19 ?_
  refine l_slen C dL_law_20 ?_
  refine j_iconst 5 C (by decide) dL_law_21 ?_
  refine j_isub C dL_law_22 ?_
  have e : nI L - 5 < nI I := by
    rw [Int32.lt_iff_toInt_lt, nI_m5 (by omega), nI_toInt (by omega)]
    omega
  refine j_icmp_gt (α := Unit) (a := some ()) (b := none) (o := ()) 1278 C (if_pos e) (by decide) dL_law_23 (fun _ => ?_) (fun h => by cases h)
  refine j_iconst 1 C (by decide) dL_law_1278 ?_
  exact l_end C dL_law_1279
theorem l_loop (C : KQ (lawZ b L xs aK aV) G D cL_law RL wsL_law room_1 4) (hE : LE a imF shF crF) (hL : L ≤ 2560) : ∀ (n I : Nat) (w : va_W), L ≤ I + n → I ≤ 2565 → LI D a imF shF crF w → JW G D 18 [(0, .ref b), (1, .ref (a 0)), (2, .ref (a 68)), (3, .int (nI I))] [] w := by
  intro n
  induction n with
  | zero => intro I w h1 h2 _; exact l_exit C hL (by omega) (by omega) w
  | succ n ih =>
    intro I w h1 h2 h
    by_cases hI : I + 5 ≤ L
    · refine j_iload_n C 3 rfl dL_law_18 ?_
      refine j_aload_n C 0 rfl dL_law_19 ?_
      refine l_slen C dL_law_20 ?_
      refine j_iconst 5 C (by decide) dL_law_21 ?_
      refine j_isub C dL_law_22 ?_
      have e : ¬ nI L - 5 < nI I := by
        rw [Int32.lt_iff_toInt_lt, nI_m5 (by omega), nI_toInt (by omega)]
        omega
      refine j_icmp_gt (α := Unit) (a := none) (b := some ()) (o := ()) 1278 C (if_neg e) (by decide) dL_law_23 (fun h => by cases h) (fun _ => ?_)
      refine l_case C hE hI hL h (fun w' h' => ?_)
      refine j_iinc (n := 5) (nI (I + 5)) 3 3 [(0, .ref b), (1, .ref (a 0)), (2, .ref (a 68)), (3, .int (nI (I + 5)))] [1, 2, 3, 0] C rfl (nI_add I 5) (by decide) rfl dL_law_1272 ?_
      refine j_goto 18 C (by decide) dL_law_1275 ?_
      exact ih (I + 5) w' (by omega) (by omega) h'
    · exact l_exit C hL hI (by omega) w
end LL
