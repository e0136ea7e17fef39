def PU_feed (h0 : Hp) : Prop := ∀ (x1 : Int32) (x2 : Int32) (x3 : Int32) (x4 : Int32) (x5 : Int32), ∃ (n1 : Nat) (q1 : Int32 × Hp) (n2 : Nat) (q2 : Int32 × Hp), F_X11_feed n1 h0 x1 x2 x3 x4 x5 = some q1 ∧ F_X12_feed n2 q1.2 x1 x2 x3 x4 x5 = some q2 ∧ q1.1 = q2.1
def PU_back (h0 : Hp) : Prop := ∀ (x1 : Int32), ∃ (n1 : Nat) (q1 : Int32 × Hp) (n2 : Nat) (q2 : Int32 × Hp), F_X11_back n1 h0 x1 = some q1 ∧ F_X12_back n2 q1.2 x1 = some q2 ∧ q1.1 = q2.1
def PU_read (h0 : Hp) : Prop := ∃ (n1 : Nat) (q1 : Int32 × Hp) (n2 : Nat) (q2 : Int32 × Hp), F_X11_read n1 h0 = some q1 ∧ F_X12_read n2 q1.2 = some q2 ∧ q1.1 = q2.1
def PU_place (h0 : Hp) : Prop := ∃ (n1 : Nat) (q1 : Int32 × Hp) (n2 : Nat) (q2 : Int32 × Hp), F_X11_place n1 h0 = some q1 ∧ F_X12_place n2 q1.2 = some q2 ∧ q1.1 = q2.1
def PU_cell (h0 : Hp) : Prop := ∀ (x1 : Int32) (x2 : Int32), ∃ (n1 : Nat) (q1 : Int32 × Hp) (n2 : Nat) (q2 : Int32 × Hp), F_X11_cell n1 h0 x1 x2 = some q1 ∧ F_X12_cell n2 q1.2 x1 x2 = some q2 ∧ q1.1 = q2.1
def PU_goer (h0 : Hp) : Prop := ∀ (x1 : Int32) (x2 : Int32), ∃ (n1 : Nat) (q1 : Int32 × Hp) (n2 : Nat) (q2 : Int32 × Hp), F_X11_goer n1 h0 x1 x2 = some q1 ∧ F_X12_goer n2 q1.2 x1 x2 = some q2 ∧ q1.1 = q2.1
def PU_mow (h0 : Hp) : Prop := ∀ (x1 : Int32), ∃ (n1 : Nat) (q1 : Int32 × Hp) (n2 : Nat) (q2 : Int32 × Hp), F_X11_mow n1 h0 x1 = some q1 ∧ F_X12_mow n2 q1.2 x1 = some q2 ∧ q1.1 = q2.1
def PU_rope (h0 : Hp) : Prop := ∀ (x1 : Int32) (x2 : Int32), (x2 = 0 ∨ x2 = 1) → ∃ (n1 : Nat) (q1 : Int32 × Hp) (n2 : Nat) (q2 : Int32 × Hp), F_X11_rope n1 h0 x1 x2 = some q1 ∧ F_X12_rope n2 q1.2 x1 x2 = some q2 ∧ q1.1 = q2.1
def PU_carry (h0 : Hp) : Prop := ∀ (x1 : Int32) (x2 : Int32), ∃ (n1 : Nat) (q1 : Int32 × Hp) (n2 : Nat) (q2 : Int32 × Hp), F_X11_carry n1 h0 x1 x2 = some q1 ∧ F_X12_carry n2 q1.2 x1 x2 = some q2 ∧ q1.1 = q2.1
def PU_beats (h0 : Hp) : Prop := ∀ (x1 : Int32), ∃ (n1 : Nat) (q1 : Int32 × Hp) (n2 : Nat) (q2 : Int32 × Hp), F_X11_beats n1 h0 x1 = some q1 ∧ F_X12_beats n2 q1.2 x1 = some q2 ∧ q1.1 = q2.1
def PU_undo (h0 : Hp) : Prop := ∃ (n1 : Nat) (q1 : Int32 × Hp) (n2 : Nat) (q2 : Int32 × Hp), F_X11_undo n1 h0 = some q1 ∧ F_X12_undo n2 q1.2 = some q2 ∧ q1.1 = q2.1
def PU_next (h0 : Hp) : Prop := ∀ (x1 : Int32), ∃ (n1 : Nat) (q1 : Int32 × Hp) (n2 : Nat) (q2 : Int32 × Hp), F_X11_next n1 h0 x1 = some q1 ∧ F_X12_next n2 q1.2 x1 = some q2 ∧ q1.1 = q2.1
def PU_together (h0 : Hp) : Prop := ∀ (x1 : Int32) (x2 : Int32), ∃ (n1 : Nat) (q1 : Int32 × Hp) (n2 : Nat) (q2 : Int32 × Hp), F_X11_together n1 h0 x1 x2 = some q1 ∧ F_X12_together n2 q1.2 x1 x2 = some q2 ∧ q1.1 = q2.1
def PU_way (h0 : Hp) : Prop := ∀ (x1 : Int32) (x2 : Int32) (x3 : Int32), ∃ (n1 : Nat) (q1 : Int32 × Hp) (n2 : Nat) (q2 : Int32 × Hp), F_X11_way n1 h0 x1 x2 x3 = some q1 ∧ F_X12_way n2 q1.2 x1 x2 x3 = some q2 ∧ q1.1 = q2.1
def PU_leave (h0 : Hp) : Prop := ∀ (x1 : Int32) (x2 : Int32) (x3 : Int32), ∃ (n1 : Nat) (q1 : Int32 × Hp) (n2 : Nat) (q2 : Int32 × Hp), F_X11_leave n1 h0 x1 x2 x3 = some q1 ∧ F_X12_leave n2 q1.2 x1 x2 x3 = some q2 ∧ q1.1 = q2.1
def PU_mows (h0 : Hp) : Prop := ∀ (x1 : Int32) (x2 : Int32) (x3 : Int32) (x4 : Int32), ∃ (n1 : Nat) (q1 : Int32 × Hp) (n2 : Nat) (q2 : Int32 × Hp), F_X11_mows n1 h0 x1 x2 x3 x4 = some q1 ∧ F_X12_mows n2 q1.2 x1 x2 x3 x4 = some q2 ∧ q1.1 = q2.1
def PU_part (h0 : Hp) : Prop := ∀ (x1 : Int32) (x2 : Int32), ∃ (n1 : Nat) (q1 : Int32 × Hp) (n2 : Nat) (q2 : Int32 × Hp), F_X11_part n1 h0 x1 x2 = some q1 ∧ F_X12_part n2 q1.2 x1 x2 = some q2 ∧ q1.1 = q2.1
def PU_meet (h0 : Hp) : Prop := ∀ (x1 : Int32) (x2 : Int32) (x3 : Int32), ∃ (n1 : Nat) (q1 : Int32 × Hp) (n2 : Nat) (q2 : Int32 × Hp), F_X11_meet n1 h0 x1 x2 x3 = some q1 ∧ F_X12_meet n2 q1.2 x1 x2 x3 = some q2 ∧ q1.1 = q2.1
def PU_returns (h0 : Hp) : Prop := ∀ (x1 : Int32), ∃ (n1 : Nat) (q1 : Int32 × Hp) (n2 : Nat) (q2 : Int32 × Hp), F_X11_returns n1 h0 x1 = some q1 ∧ F_X12_returns n2 q1.2 x1 = some q2 ∧ q1.1 = q2.1
def PU_never (h0 : Hp) : Prop := ∀ (x1 : Int32), ∃ (n1 : Nat) (q1 : Int32 × Hp) (n2 : Nat) (q2 : Int32 × Hp), F_X11_never n1 h0 x1 = some q1 ∧ F_X12_never n2 q1.2 x1 = some q2 ∧ q1.1 = q2.1
def PU_stood (h0 : Hp) : Prop := ∀ (x1 : Int32) (x2 : Int32) (x3 : Int32), ∃ (n1 : Nat) (q1 : Int32 × Hp) (n2 : Nat) (q2 : Int32 × Hp), F_X11_stood n1 h0 x1 x2 x3 = some q1 ∧ F_X12_stood n2 q1.2 x1 x2 x3 = some q2 ∧ q1.1 = q2.1
def PU_loud (h0 : Hp) : Prop := ∀ (x1 : Int32), ∃ (n1 : Nat) (q1 : Int32 × Hp) (n2 : Nat) (q2 : Int32 × Hp), F_X11_loud n1 h0 x1 = some q1 ∧ F_X12_loud n2 q1.2 x1 = some q2 ∧ q1.1 = q2.1
def PU_silence (h0 : Hp) : Prop := ∀ (x1 : Int32), ∃ (n1 : Nat) (q1 : Int32 × Hp) (n2 : Nat) (q2 : Int32 × Hp), F_X11_silence n1 h0 x1 = some q1 ∧ F_X12_silence n2 q1.2 x1 = some q2 ∧ q1.1 = q2.1
def PU_chorus (h0 : Hp) : Prop := ∀ (x1 : Int32), ∃ (n1 : Nat) (q1 : Int32 × Hp) (n2 : Nat) (q2 : Int32 × Hp), F_X11_chorus n1 h0 x1 = some q1 ∧ F_X12_chorus n2 q1.2 x1 = some q2 ∧ q1.1 = q2.1
def PU_period (h0 : Hp) : Prop := ∃ (n1 : Nat) (q1 : Int32 × Hp) (n2 : Nat) (q2 : Int32 × Hp), F_X11_period n1 h0 = some q1 ∧ F_X12_period n2 q1.2 = some q2 ∧ q1.1 = q2.1
def PU_centre (h0 : Hp) : Prop := ∀ (x1 : Int32), ∃ (n1 : Nat) (q1 : Int32 × Hp) (n2 : Nat) (q2 : Int32 × Hp), F_X11_centre n1 h0 x1 = some q1 ∧ F_X12_centre n2 q1.2 x1 = some q2 ∧ q1.1 = q2.1
def PU_far (h0 : Hp) : Prop := ∀ (x1 : Int32) (x2 : Int32), ∃ (n1 : Nat) (q1 : Int32 × Hp) (n2 : Nat) (q2 : Int32 × Hp), F_X11_far n1 h0 x1 x2 = some q1 ∧ F_X12_far n2 q1.2 x1 x2 = some q2 ∧ q1.1 = q2.1
def PU_pairs (h0 : Hp) : Prop := ∀ (x1 : Int32), ∃ (n1 : Nat) (q1 : Int32 × Hp) (n2 : Nat) (q2 : Int32 × Hp), F_X11_pairs n1 h0 x1 = some q1 ∧ F_X12_pairs n2 q1.2 x1 = some q2 ∧ q1.1 = q2.1
def PU_then (h0 : Hp) : Prop := ∀ (x1 : Int32) (x2 : Int32) (x3 : Int32), ∃ (n1 : Nat) (q1 : Int32 × Hp) (n2 : Nat) (q2 : Int32 × Hp), F_X11_then n1 h0 x1 x2 x3 = some q1 ∧ F_X12_then n2 q1.2 x1 x2 x3 = some q2 ∧ q1.1 = q2.1
def PU_tunesIn (h0 : Hp) : Prop := ∀ (x1 : Int32), ∃ (n1 : Nat) (q1 : Int32 × Hp) (n2 : Nat) (q2 : Int32 × Hp), F_X11_tunesIn n1 h0 x1 = some q1 ∧ F_X12_tunesIn n2 q1.2 x1 = some q2 ∧ q1.1 = q2.1
def PU_year (h0 : Hp) : Prop := ∀ (x1 : Int32) (x2 : Int32) (x3 : Int32), ∃ (n1 : Nat) (q1 : Int32 × Hp) (n2 : Nat) (q2 : Int32 × Hp), F_X11_year n1 h0 x1 x2 x3 = some q1 ∧ F_X12_year n2 q1.2 x1 x2 x3 = some q2 ∧ q1.1 = q2.1
def PU_tell (h0 : Hp) : Prop := ∀ (x1 : Int32) (x2 : Int32), (x2 = 0 ∨ x2 = 1) → ∃ (n1 : Nat) (q1 : Int32 × Hp) (n2 : Nat) (q2 : Int32 × Hp), F_X11_tell n1 h0 x1 x2 = some q1 ∧ F_X12_tell n2 q1.2 x1 x2 = some q2 ∧ q1.1 = q2.1
def PU_forget (h0 : Hp) : Prop := ∃ (n1 : Nat) (q1 : Int32 × Hp) (n2 : Nat) (q2 : Int32 × Hp), F_X11_forget n1 h0 = some q1 ∧ F_X12_forget n2 q1.2 = some q2 ∧ q1.1 = q2.1
def PU_fits (h0 : Hp) : Prop := ∀ (x1 : Int32) (x2 : Int32), ∃ (n1 : Nat) (q1 : Int32 × Hp) (n2 : Nat) (q2 : Int32 × Hp), F_X11_fits n1 h0 x1 x2 = some q1 ∧ F_X12_fits n2 q1.2 x1 x2 = some q2 ∧ q1.1 = q2.1
def PU_listen (h0 : Hp) : Prop := ∀ (x1 : Int32), ∃ (n1 : Nat) (q1 : Int32 × Hp) (n2 : Nat) (q2 : Int32 × Hp), F_X11_listen n1 h0 x1 = some q1 ∧ F_X12_listen n2 q1.2 x1 = some q2 ∧ q1.1 = q2.1
def PU_hold (h0 : Hp) : Prop := ∀ (x1 : Int32), ∃ (n1 : Nat) (q1 : Int32 × Hp) (n2 : Nat) (q2 : Int32 × Hp), F_X11_hold n1 h0 x1 = some q1 ∧ F_X12_hold n2 q1.2 x1 = some q2 ∧ q1.1 = q2.1
def PU_restore (h0 : Hp) : Prop := ∀ (x1 : Int32), ∃ (n1 : Nat) (q1 : Int32 × Hp) (n2 : Nat) (q2 : Int32 × Hp), F_X11_restore n1 h0 x1 = some q1 ∧ F_X12_restore n2 q1.2 x1 = some q2 ∧ q1.1 = q2.1
def PU_count (h0 : Hp) : Prop := ∀ (x1 : Int32), ∃ (n1 : Nat) (q1 : Int32 × Hp) (n2 : Nat) (q2 : Int32 × Hp), F_X11_count n1 h0 x1 = some q1 ∧ F_X12_count n2 q1.2 x1 = some q2 ∧ q1.1 = q2.1
set_option maxHeartbeats 4000000 in
theorem law_switch {xs : Nat → Int32} {h0 : Hp} (hG : G h0) (p0 : PU_feed h0) (p1 : PU_back h0) (p2 : PU_read h0) (p3 : PU_place h0) (p4 : PU_cell h0) (p5 : PU_goer h0) (p6 : PU_mow h0) (p7 : PU_rope h0) (p8 : PU_carry h0) (p9 : PU_beats h0) (p10 : PU_undo h0) (p11 : PU_next h0) (p12 : PU_together h0) (p13 : PU_way h0) (p14 : PU_leave h0) (p15 : PU_mows h0) (p16 : PU_part h0) (p17 : PU_meet h0) (p18 : PU_returns h0) (p19 : PU_never h0) (p20 : PU_stood h0) (p21 : PU_loud h0) (p22 : PU_silence h0) (p23 : PU_chorus h0) (p24 : PU_period h0) (p25 : PU_centre h0) (p26 : PU_far h0) (p27 : PU_pairs h0) (p28 : PU_then h0) (p29 : PU_tunesIn h0) (p30 : PU_year h0) (p31 : PU_tell h0) (p32 : PU_forget h0) (p33 : PU_fits h0) (p34 : PU_listen h0) (p35 : PU_hold h0) (p36 : PU_restore h0) (p37 : PU_count h0) : VL 6 xs lvF 18 [] h0 := by
  have k27 : VL 6 xs lvF 27 [] h0 := by
    refine L_at0 dL_law_27 dL_law_28 dL_law_29 ?_
    refine L_bipush (v := 63) dL_law_30 (by decide) ?_
    refine L_iand dL_law_32 ?_
    by_cases c0 : (xs 0 &&& 63 : Int32) = 0
    · refine L_tableIn (off := 167) 200 dL_law_33 (by rw [c0]; decide) (by rw [c0]; decide) (by rw [c0]; decide +kernel) (by decide) ?_
      exact case_0 hG p0
    by_cases c1 : (xs 0 &&& 63 : Int32) = 1
    · refine L_tableIn (off := 230) 263 dL_law_33 (by rw [c1]; decide) (by rw [c1]; decide) (by rw [c1]; decide +kernel) (by decide) ?_
      exact case_1 hG p1
    by_cases c2 : (xs 0 &&& 63 : Int32) = 2
    · refine L_tableIn (off := 253) 286 dL_law_33 (by rw [c2]; decide) (by rw [c2]; decide) (by rw [c2]; decide +kernel) (by decide) ?_
      exact case_2 hG p2
    by_cases c3 : (xs 0 &&& 63 : Int32) = 3
    · refine L_tableIn (off := 266) 299 dL_law_33 (by rw [c3]; decide) (by rw [c3]; decide) (by rw [c3]; decide +kernel) (by decide) ?_
      exact case_3 hG p3
    by_cases c4 : (xs 0 &&& 63 : Int32) = 4
    · refine L_tableIn (off := 279) 312 dL_law_33 (by rw [c4]; decide) (by rw [c4]; decide) (by rw [c4]; decide +kernel) (by decide) ?_
      exact case_4 hG p4
    by_cases c5 : (xs 0 &&& 63 : Int32) = 5
    · refine L_tableIn (off := 312) 345 dL_law_33 (by rw [c5]; decide) (by rw [c5]; decide) (by rw [c5]; decide +kernel) (by decide) ?_
      exact case_5 hG p5
    by_cases c6 : (xs 0 &&& 63 : Int32) = 6
    · refine L_tableIn (off := 345) 378 dL_law_33 (by rw [c6]; decide) (by rw [c6]; decide) (by rw [c6]; decide +kernel) (by decide) ?_
      exact case_6 hG p6
    by_cases c7 : (xs 0 &&& 63 : Int32) = 7
    · refine L_tableIn (off := 368) 401 dL_law_33 (by rw [c7]; decide) (by rw [c7]; decide) (by rw [c7]; decide +kernel) (by decide) ?_
      exact case_7 hG p7
    by_cases c8 : (xs 0 &&& 63 : Int32) = 8
    · refine L_tableIn (off := 417) 450 dL_law_33 (by rw [c8]; decide) (by rw [c8]; decide) (by rw [c8]; decide +kernel) (by decide) ?_
      exact case_8 hG p8
    by_cases c9 : (xs 0 &&& 63 : Int32) = 9
    · refine L_tableIn (off := 450) 483 dL_law_33 (by rw [c9]; decide) (by rw [c9]; decide) (by rw [c9]; decide +kernel) (by decide) ?_
      exact case_9 hG p9
    by_cases c10 : (xs 0 &&& 63 : Int32) = 10
    · refine L_tableIn (off := 473) 506 dL_law_33 (by rw [c10]; decide) (by rw [c10]; decide) (by rw [c10]; decide +kernel) (by decide) ?_
      exact case_10 hG p10
    by_cases c11 : (xs 0 &&& 63 : Int32) = 11
    · refine L_tableIn (off := 486) 519 dL_law_33 (by rw [c11]; decide) (by rw [c11]; decide) (by rw [c11]; decide +kernel) (by decide) ?_
      exact case_11 hG p11
    by_cases c12 : (xs 0 &&& 63 : Int32) = 12
    · refine L_tableIn (off := 509) 542 dL_law_33 (by rw [c12]; decide) (by rw [c12]; decide) (by rw [c12]; decide +kernel) (by decide) ?_
      exact case_12 hG p12
    by_cases c13 : (xs 0 &&& 63 : Int32) = 13
    · refine L_tableIn (off := 542) 575 dL_law_33 (by rw [c13]; decide) (by rw [c13]; decide) (by rw [c13]; decide +kernel) (by decide) ?_
      exact case_13 hG p13
    by_cases c14 : (xs 0 &&& 63 : Int32) = 14
    · refine L_tableIn (off := 585) 618 dL_law_33 (by rw [c14]; decide) (by rw [c14]; decide) (by rw [c14]; decide +kernel) (by decide) ?_
      exact case_14 hG p14
    by_cases c15 : (xs 0 &&& 63 : Int32) = 15
    · refine L_tableIn (off := 628) 661 dL_law_33 (by rw [c15]; decide) (by rw [c15]; decide) (by rw [c15]; decide +kernel) (by decide) ?_
      exact case_15 hG p15
    by_cases c16 : (xs 0 &&& 63 : Int32) = 16
    · refine L_tableIn (off := 681) 714 dL_law_33 (by rw [c16]; decide) (by rw [c16]; decide) (by rw [c16]; decide +kernel) (by decide) ?_
      exact case_16 hG p16
    by_cases c17 : (xs 0 &&& 63 : Int32) = 17
    · refine L_tableIn (off := 714) 747 dL_law_33 (by rw [c17]; decide) (by rw [c17]; decide) (by rw [c17]; decide +kernel) (by decide) ?_
      exact case_17 hG p17
    by_cases c18 : (xs 0 &&& 63 : Int32) = 18
    · refine L_tableIn (off := 757) 790 dL_law_33 (by rw [c18]; decide) (by rw [c18]; decide) (by rw [c18]; decide +kernel) (by decide) ?_
      exact case_18 hG p18
    by_cases c19 : (xs 0 &&& 63 : Int32) = 19
    · refine L_tableIn (off := 780) 813 dL_law_33 (by rw [c19]; decide) (by rw [c19]; decide) (by rw [c19]; decide +kernel) (by decide) ?_
      exact case_19 hG p19
    by_cases c20 : (xs 0 &&& 63 : Int32) = 20
    · refine L_tableIn (off := 803) 836 dL_law_33 (by rw [c20]; decide) (by rw [c20]; decide) (by rw [c20]; decide +kernel) (by decide) ?_
      exact case_20 hG p20
    by_cases c21 : (xs 0 &&& 63 : Int32) = 21
    · refine L_tableIn (off := 846) 879 dL_law_33 (by rw [c21]; decide) (by rw [c21]; decide) (by rw [c21]; decide +kernel) (by decide) ?_
      exact case_21 hG p21
    by_cases c22 : (xs 0 &&& 63 : Int32) = 22
    · refine L_tableIn (off := 869) 902 dL_law_33 (by rw [c22]; decide) (by rw [c22]; decide) (by rw [c22]; decide +kernel) (by decide) ?_
      exact case_22 hG p22
    by_cases c23 : (xs 0 &&& 63 : Int32) = 23
    · refine L_tableIn (off := 892) 925 dL_law_33 (by rw [c23]; decide) (by rw [c23]; decide) (by rw [c23]; decide +kernel) (by decide) ?_
      exact case_23 hG p23
    by_cases c24 : (xs 0 &&& 63 : Int32) = 24
    · refine L_tableIn (off := 915) 948 dL_law_33 (by rw [c24]; decide) (by rw [c24]; decide) (by rw [c24]; decide +kernel) (by decide) ?_
      exact case_24 hG p24
    by_cases c25 : (xs 0 &&& 63 : Int32) = 25
    · refine L_tableIn (off := 928) 961 dL_law_33 (by rw [c25]; decide) (by rw [c25]; decide) (by rw [c25]; decide +kernel) (by decide) ?_
      exact case_25 hG p25
    by_cases c26 : (xs 0 &&& 63 : Int32) = 26
    · refine L_tableIn (off := 951) 984 dL_law_33 (by rw [c26]; decide) (by rw [c26]; decide) (by rw [c26]; decide +kernel) (by decide) ?_
      exact case_26 hG p26
    by_cases c27 : (xs 0 &&& 63 : Int32) = 27
    · refine L_tableIn (off := 984) 1017 dL_law_33 (by rw [c27]; decide) (by rw [c27]; decide) (by rw [c27]; decide +kernel) (by decide) ?_
      exact case_27 hG p27
    by_cases c28 : (xs 0 &&& 63 : Int32) = 28
    · refine L_tableIn (off := 1007) 1040 dL_law_33 (by rw [c28]; decide) (by rw [c28]; decide) (by rw [c28]; decide +kernel) (by decide) ?_
      exact case_28 hG p28
    by_cases c29 : (xs 0 &&& 63 : Int32) = 29
    · refine L_tableIn (off := 1050) 1083 dL_law_33 (by rw [c29]; decide) (by rw [c29]; decide) (by rw [c29]; decide +kernel) (by decide) ?_
      exact case_29 hG p29
    by_cases c30 : (xs 0 &&& 63 : Int32) = 30
    · refine L_tableIn (off := 1073) 1106 dL_law_33 (by rw [c30]; decide) (by rw [c30]; decide) (by rw [c30]; decide +kernel) (by decide) ?_
      exact case_30 hG p30
    by_cases c31 : (xs 0 &&& 63 : Int32) = 31
    · refine L_tableIn (off := 1116) 1149 dL_law_33 (by rw [c31]; decide) (by rw [c31]; decide) (by rw [c31]; decide +kernel) (by decide) ?_
      exact case_31 hG p31
    by_cases c32 : (xs 0 &&& 63 : Int32) = 32
    · refine L_tableIn (off := 1165) 1198 dL_law_33 (by rw [c32]; decide) (by rw [c32]; decide) (by rw [c32]; decide +kernel) (by decide) ?_
      exact case_32 hG p32
    by_cases c33 : (xs 0 &&& 63 : Int32) = 33
    · refine L_tableIn (off := 1178) 1211 dL_law_33 (by rw [c33]; decide) (by rw [c33]; decide) (by rw [c33]; decide +kernel) (by decide) ?_
      exact case_33 hG p33
    by_cases c34 : (xs 0 &&& 63 : Int32) = 34
    · refine L_tableIn (off := 1211) 1244 dL_law_33 (by rw [c34]; decide) (by rw [c34]; decide) (by rw [c34]; decide +kernel) (by decide) ?_
      exact case_34 hG p34
    by_cases c35 : (xs 0 &&& 63 : Int32) = 35
    · refine L_tableIn (off := 1234) 1267 dL_law_33 (by rw [c35]; decide) (by rw [c35]; decide) (by rw [c35]; decide +kernel) (by decide) ?_
      exact case_35 hG p35
    by_cases c36 : (xs 0 &&& 63 : Int32) = 36
    · refine L_tableIn (off := 1257) 1290 dL_law_33 (by rw [c36]; decide) (by rw [c36]; decide) (by rw [c36]; decide +kernel) (by decide) ?_
      exact case_36 hG p36
    by_cases c37 : (xs 0 &&& 63 : Int32) = 37
    · refine L_tableIn (off := 1280) 1313 dL_law_33 (by rw [c37]; decide) (by rw [c37]; decide) (by rw [c37]; decide +kernel) (by decide) ?_
      exact case_37 hG p37
    have e0 : ¬ (xs 0 &&& 63 : Int32).toInt = 0 := fun q => c0 (Int32.toInt_inj.mp (q.trans (by decide)))
    have e1 : ¬ (xs 0 &&& 63 : Int32).toInt = 1 := fun q => c1 (Int32.toInt_inj.mp (q.trans (by decide)))
    have e2 : ¬ (xs 0 &&& 63 : Int32).toInt = 2 := fun q => c2 (Int32.toInt_inj.mp (q.trans (by decide)))
    have e3 : ¬ (xs 0 &&& 63 : Int32).toInt = 3 := fun q => c3 (Int32.toInt_inj.mp (q.trans (by decide)))
    have e4 : ¬ (xs 0 &&& 63 : Int32).toInt = 4 := fun q => c4 (Int32.toInt_inj.mp (q.trans (by decide)))
    have e5 : ¬ (xs 0 &&& 63 : Int32).toInt = 5 := fun q => c5 (Int32.toInt_inj.mp (q.trans (by decide)))
    have e6 : ¬ (xs 0 &&& 63 : Int32).toInt = 6 := fun q => c6 (Int32.toInt_inj.mp (q.trans (by decide)))
    have e7 : ¬ (xs 0 &&& 63 : Int32).toInt = 7 := fun q => c7 (Int32.toInt_inj.mp (q.trans (by decide)))
    have e8 : ¬ (xs 0 &&& 63 : Int32).toInt = 8 := fun q => c8 (Int32.toInt_inj.mp (q.trans (by decide)))
    have e9 : ¬ (xs 0 &&& 63 : Int32).toInt = 9 := fun q => c9 (Int32.toInt_inj.mp (q.trans (by decide)))
    have e10 : ¬ (xs 0 &&& 63 : Int32).toInt = 10 := fun q => c10 (Int32.toInt_inj.mp (q.trans (by decide)))
    have e11 : ¬ (xs 0 &&& 63 : Int32).toInt = 11 := fun q => c11 (Int32.toInt_inj.mp (q.trans (by decide)))
    have e12 : ¬ (xs 0 &&& 63 : Int32).toInt = 12 := fun q => c12 (Int32.toInt_inj.mp (q.trans (by decide)))
    have e13 : ¬ (xs 0 &&& 63 : Int32).toInt = 13 := fun q => c13 (Int32.toInt_inj.mp (q.trans (by decide)))
    have e14 : ¬ (xs 0 &&& 63 : Int32).toInt = 14 := fun q => c14 (Int32.toInt_inj.mp (q.trans (by decide)))
    have e15 : ¬ (xs 0 &&& 63 : Int32).toInt = 15 := fun q => c15 (Int32.toInt_inj.mp (q.trans (by decide)))
    have e16 : ¬ (xs 0 &&& 63 : Int32).toInt = 16 := fun q => c16 (Int32.toInt_inj.mp (q.trans (by decide)))
    have e17 : ¬ (xs 0 &&& 63 : Int32).toInt = 17 := fun q => c17 (Int32.toInt_inj.mp (q.trans (by decide)))
    have e18 : ¬ (xs 0 &&& 63 : Int32).toInt = 18 := fun q => c18 (Int32.toInt_inj.mp (q.trans (by decide)))
    have e19 : ¬ (xs 0 &&& 63 : Int32).toInt = 19 := fun q => c19 (Int32.toInt_inj.mp (q.trans (by decide)))
    have e20 : ¬ (xs 0 &&& 63 : Int32).toInt = 20 := fun q => c20 (Int32.toInt_inj.mp (q.trans (by decide)))
    have e21 : ¬ (xs 0 &&& 63 : Int32).toInt = 21 := fun q => c21 (Int32.toInt_inj.mp (q.trans (by decide)))
    have e22 : ¬ (xs 0 &&& 63 : Int32).toInt = 22 := fun q => c22 (Int32.toInt_inj.mp (q.trans (by decide)))
    have e23 : ¬ (xs 0 &&& 63 : Int32).toInt = 23 := fun q => c23 (Int32.toInt_inj.mp (q.trans (by decide)))
    have e24 : ¬ (xs 0 &&& 63 : Int32).toInt = 24 := fun q => c24 (Int32.toInt_inj.mp (q.trans (by decide)))
    have e25 : ¬ (xs 0 &&& 63 : Int32).toInt = 25 := fun q => c25 (Int32.toInt_inj.mp (q.trans (by decide)))
    have e26 : ¬ (xs 0 &&& 63 : Int32).toInt = 26 := fun q => c26 (Int32.toInt_inj.mp (q.trans (by decide)))
    have e27 : ¬ (xs 0 &&& 63 : Int32).toInt = 27 := fun q => c27 (Int32.toInt_inj.mp (q.trans (by decide)))
    have e28 : ¬ (xs 0 &&& 63 : Int32).toInt = 28 := fun q => c28 (Int32.toInt_inj.mp (q.trans (by decide)))
    have e29 : ¬ (xs 0 &&& 63 : Int32).toInt = 29 := fun q => c29 (Int32.toInt_inj.mp (q.trans (by decide)))
    have e30 : ¬ (xs 0 &&& 63 : Int32).toInt = 30 := fun q => c30 (Int32.toInt_inj.mp (q.trans (by decide)))
    have e31 : ¬ (xs 0 &&& 63 : Int32).toInt = 31 := fun q => c31 (Int32.toInt_inj.mp (q.trans (by decide)))
    have e32 : ¬ (xs 0 &&& 63 : Int32).toInt = 32 := fun q => c32 (Int32.toInt_inj.mp (q.trans (by decide)))
    have e33 : ¬ (xs 0 &&& 63 : Int32).toInt = 33 := fun q => c33 (Int32.toInt_inj.mp (q.trans (by decide)))
    have e34 : ¬ (xs 0 &&& 63 : Int32).toInt = 34 := fun q => c34 (Int32.toInt_inj.mp (q.trans (by decide)))
    have e35 : ¬ (xs 0 &&& 63 : Int32).toInt = 35 := fun q => c35 (Int32.toInt_inj.mp (q.trans (by decide)))
    have e36 : ¬ (xs 0 &&& 63 : Int32).toInt = 36 := fun q => c36 (Int32.toInt_inj.mp (q.trans (by decide)))
    have e37 : ¬ (xs 0 &&& 63 : Int32).toInt = 37 := fun q => c37 (Int32.toInt_inj.mp (q.trans (by decide)))
    refine L_tableOut 1336 dL_law_33 (by omega) (by decide) ?_
    exact L_end (Nat.le_of_eq hG.1)
  intro l b D g p e s m below meth c sc H locs ls C hz hP hS hl
  have C0 := C
  obtain ⟨hx, hbc, hr, hml, hown, hts, hX, hbl, hlocks, hK, hsb⟩ := C
  have hbA : ¬ (fun q => b ≤ q) sc := Nat.not_le.mpr (by rw [← hsb]; exact hbl)
  refine lv_iload_n hx hbc dL_law_18 rfl (lv_at hl 3 rfl) ?_
  refine lv_aload_n hx hbc dL_law_19 rfl (lv_at hl 0 rfl) ?_
  refine va_slen hx hbc hX hbl hbA hS dL_law_20 ?_
  refine lv_bipush (v := 6) hx hbc dL_law_21 (by decide) ?_
  refine lv_isub hx hbc dL_law_23 ?_
  refine lv_icmp_gt (tgt := 1342) hx hbc dL_law_24 (by decide) (fun q => absurd q (by decide)) (fun _ => ?_)
  exact k27 l b D g p e s m below meth c sc H locs ls C0 hz hP hS hl
