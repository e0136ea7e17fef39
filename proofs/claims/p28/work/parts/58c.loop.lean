/-! THE SWITCH, THE LOOP -/
set_option maxHeartbeats 4000000 in
theorem law_switch {L : Nat} {xs : Nat → Int32} {i : Int32} {h0 : Hp} (hG : G h0) (hw : Ir h0) (hv0 : vp_in i L) (hv : ∀ v : Int32, 0 ≤ v.toInt → v.toInt < 6 → vp_in (i + v) L) (p0 : PU_feed) (p1 : PU_back) (p2 : PU_read) (p3 : PU_place) (p4 : PU_cell) (p5 : PU_goer) (p6 : PU_mow) (p7 : PU_rope) (p8 : PU_carry) (p9 : PU_beats) (p10 : PU_undo) (p11 : PU_next) (p12 : PU_together) (p13 : PU_way) (p14 : PU_leave) (p15 : PU_mows) (p16 : PU_part) (p17 : PU_meet) (p18 : PU_returns) (p19 : PU_never) (p20 : PU_stood) (p21 : PU_loud) (p22 : PU_silence) (p23 : PU_chorus) (p24 : PU_period) (p25 : PU_centre) (p26 : PU_far) (p27 : PU_pairs) (p28 : PU_then) (p29 : PU_tunesIn) (p30 : PU_year) (p31 : PU_tell) (p32 : PU_forget) (p33 : PU_fits) (p34 : PU_listen) (p35 : PU_hold) (p36 : PU_restore) (p37 : PU_count) (kk : ∀ h : Hp, G h → Ir h → VL L xs (lvC i) 1336 [] h) : VL L xs (lvC i) 27 [] h0 := by
  refine L_at0 dL_law_27 dL_law_28 dL_law_29 hv0 ?_
  refine L_bipush (v := 63) dL_law_30 (by decide) ?_
  refine L_iand dL_law_32 ?_
  by_cases c0 : (xs (Int32.toNatClampNeg i) &&& 63 : Int32) = 0
  · refine L_tableIn (off := 167) 200 dL_law_33 (by rw [c0]; decide) (by rw [c0]; decide) (by rw [c0]; decide +kernel) (by decide) ?_
    exact case_0 hG hw hv p0 kk
  by_cases c1 : (xs (Int32.toNatClampNeg i) &&& 63 : Int32) = 1
  · refine L_tableIn (off := 230) 263 dL_law_33 (by rw [c1]; decide) (by rw [c1]; decide) (by rw [c1]; decide +kernel) (by decide) ?_
    exact case_1 hG hw hv p1 kk
  by_cases c2 : (xs (Int32.toNatClampNeg i) &&& 63 : Int32) = 2
  · refine L_tableIn (off := 253) 286 dL_law_33 (by rw [c2]; decide) (by rw [c2]; decide) (by rw [c2]; decide +kernel) (by decide) ?_
    exact case_2 hG hw hv p2 kk
  by_cases c3 : (xs (Int32.toNatClampNeg i) &&& 63 : Int32) = 3
  · refine L_tableIn (off := 266) 299 dL_law_33 (by rw [c3]; decide) (by rw [c3]; decide) (by rw [c3]; decide +kernel) (by decide) ?_
    exact case_3 hG hw hv p3 kk
  by_cases c4 : (xs (Int32.toNatClampNeg i) &&& 63 : Int32) = 4
  · refine L_tableIn (off := 279) 312 dL_law_33 (by rw [c4]; decide) (by rw [c4]; decide) (by rw [c4]; decide +kernel) (by decide) ?_
    exact case_4 hG hw hv p4 kk
  by_cases c5 : (xs (Int32.toNatClampNeg i) &&& 63 : Int32) = 5
  · refine L_tableIn (off := 312) 345 dL_law_33 (by rw [c5]; decide) (by rw [c5]; decide) (by rw [c5]; decide +kernel) (by decide) ?_
    exact case_5 hG hw hv p5 kk
  by_cases c6 : (xs (Int32.toNatClampNeg i) &&& 63 : Int32) = 6
  · refine L_tableIn (off := 345) 378 dL_law_33 (by rw [c6]; decide) (by rw [c6]; decide) (by rw [c6]; decide +kernel) (by decide) ?_
    exact case_6 hG hw hv p6 kk
  by_cases c7 : (xs (Int32.toNatClampNeg i) &&& 63 : Int32) = 7
  · refine L_tableIn (off := 368) 401 dL_law_33 (by rw [c7]; decide) (by rw [c7]; decide) (by rw [c7]; decide +kernel) (by decide) ?_
    exact case_7 hG hw hv p7 kk
  by_cases c8 : (xs (Int32.toNatClampNeg i) &&& 63 : Int32) = 8
  · refine L_tableIn (off := 417) 450 dL_law_33 (by rw [c8]; decide) (by rw [c8]; decide) (by rw [c8]; decide +kernel) (by decide) ?_
    exact case_8 hG hw hv p8 kk
  by_cases c9 : (xs (Int32.toNatClampNeg i) &&& 63 : Int32) = 9
  · refine L_tableIn (off := 450) 483 dL_law_33 (by rw [c9]; decide) (by rw [c9]; decide) (by rw [c9]; decide +kernel) (by decide) ?_
    exact case_9 hG hw hv p9 kk
  by_cases c10 : (xs (Int32.toNatClampNeg i) &&& 63 : Int32) = 10
  · refine L_tableIn (off := 473) 506 dL_law_33 (by rw [c10]; decide) (by rw [c10]; decide) (by rw [c10]; decide +kernel) (by decide) ?_
    exact case_10 hG hw hv p10 kk
  by_cases c11 : (xs (Int32.toNatClampNeg i) &&& 63 : Int32) = 11
  · refine L_tableIn (off := 486) 519 dL_law_33 (by rw [c11]; decide) (by rw [c11]; decide) (by rw [c11]; decide +kernel) (by decide) ?_
    exact case_11 hG hw hv p11 kk
  by_cases c12 : (xs (Int32.toNatClampNeg i) &&& 63 : Int32) = 12
  · refine L_tableIn (off := 509) 542 dL_law_33 (by rw [c12]; decide) (by rw [c12]; decide) (by rw [c12]; decide +kernel) (by decide) ?_
    exact case_12 hG hw hv p12 kk
  by_cases c13 : (xs (Int32.toNatClampNeg i) &&& 63 : Int32) = 13
  · refine L_tableIn (off := 542) 575 dL_law_33 (by rw [c13]; decide) (by rw [c13]; decide) (by rw [c13]; decide +kernel) (by decide) ?_
    exact case_13 hG hw hv p13 kk
  by_cases c14 : (xs (Int32.toNatClampNeg i) &&& 63 : Int32) = 14
  · refine L_tableIn (off := 585) 618 dL_law_33 (by rw [c14]; decide) (by rw [c14]; decide) (by rw [c14]; decide +kernel) (by decide) ?_
    exact case_14 hG hw hv p14 kk
  by_cases c15 : (xs (Int32.toNatClampNeg i) &&& 63 : Int32) = 15
  · refine L_tableIn (off := 628) 661 dL_law_33 (by rw [c15]; decide) (by rw [c15]; decide) (by rw [c15]; decide +kernel) (by decide) ?_
    exact case_15 hG hw hv p15 kk
  by_cases c16 : (xs (Int32.toNatClampNeg i) &&& 63 : Int32) = 16
  · refine L_tableIn (off := 681) 714 dL_law_33 (by rw [c16]; decide) (by rw [c16]; decide) (by rw [c16]; decide +kernel) (by decide) ?_
    exact case_16 hG hw hv p16 kk
  by_cases c17 : (xs (Int32.toNatClampNeg i) &&& 63 : Int32) = 17
  · refine L_tableIn (off := 714) 747 dL_law_33 (by rw [c17]; decide) (by rw [c17]; decide) (by rw [c17]; decide +kernel) (by decide) ?_
    exact case_17 hG hw hv p17 kk
  by_cases c18 : (xs (Int32.toNatClampNeg i) &&& 63 : Int32) = 18
  · refine L_tableIn (off := 757) 790 dL_law_33 (by rw [c18]; decide) (by rw [c18]; decide) (by rw [c18]; decide +kernel) (by decide) ?_
    exact case_18 hG hw hv p18 kk
  by_cases c19 : (xs (Int32.toNatClampNeg i) &&& 63 : Int32) = 19
  · refine L_tableIn (off := 780) 813 dL_law_33 (by rw [c19]; decide) (by rw [c19]; decide) (by rw [c19]; decide +kernel) (by decide) ?_
    exact case_19 hG hw hv p19 kk
  by_cases c20 : (xs (Int32.toNatClampNeg i) &&& 63 : Int32) = 20
  · refine L_tableIn (off := 803) 836 dL_law_33 (by rw [c20]; decide) (by rw [c20]; decide) (by rw [c20]; decide +kernel) (by decide) ?_
    exact case_20 hG hw hv p20 kk
  by_cases c21 : (xs (Int32.toNatClampNeg i) &&& 63 : Int32) = 21
  · refine L_tableIn (off := 846) 879 dL_law_33 (by rw [c21]; decide) (by rw [c21]; decide) (by rw [c21]; decide +kernel) (by decide) ?_
    exact case_21 hG hw hv p21 kk
  by_cases c22 : (xs (Int32.toNatClampNeg i) &&& 63 : Int32) = 22
  · refine L_tableIn (off := 869) 902 dL_law_33 (by rw [c22]; decide) (by rw [c22]; decide) (by rw [c22]; decide +kernel) (by decide) ?_
    exact case_22 hG hw hv p22 kk
  by_cases c23 : (xs (Int32.toNatClampNeg i) &&& 63 : Int32) = 23
  · refine L_tableIn (off := 892) 925 dL_law_33 (by rw [c23]; decide) (by rw [c23]; decide) (by rw [c23]; decide +kernel) (by decide) ?_
    exact case_23 hG hw hv p23 kk
  by_cases c24 : (xs (Int32.toNatClampNeg i) &&& 63 : Int32) = 24
  · refine L_tableIn (off := 915) 948 dL_law_33 (by rw [c24]; decide) (by rw [c24]; decide) (by rw [c24]; decide +kernel) (by decide) ?_
    exact case_24 hG hw hv p24 kk
  by_cases c25 : (xs (Int32.toNatClampNeg i) &&& 63 : Int32) = 25
  · refine L_tableIn (off := 928) 961 dL_law_33 (by rw [c25]; decide) (by rw [c25]; decide) (by rw [c25]; decide +kernel) (by decide) ?_
    exact case_25 hG hw hv p25 kk
  by_cases c26 : (xs (Int32.toNatClampNeg i) &&& 63 : Int32) = 26
  · refine L_tableIn (off := 951) 984 dL_law_33 (by rw [c26]; decide) (by rw [c26]; decide) (by rw [c26]; decide +kernel) (by decide) ?_
    exact case_26 hG hw hv p26 kk
  by_cases c27 : (xs (Int32.toNatClampNeg i) &&& 63 : Int32) = 27
  · refine L_tableIn (off := 984) 1017 dL_law_33 (by rw [c27]; decide) (by rw [c27]; decide) (by rw [c27]; decide +kernel) (by decide) ?_
    exact case_27 hG hw hv p27 kk
  by_cases c28 : (xs (Int32.toNatClampNeg i) &&& 63 : Int32) = 28
  · refine L_tableIn (off := 1007) 1040 dL_law_33 (by rw [c28]; decide) (by rw [c28]; decide) (by rw [c28]; decide +kernel) (by decide) ?_
    exact case_28 hG hw hv p28 kk
  by_cases c29 : (xs (Int32.toNatClampNeg i) &&& 63 : Int32) = 29
  · refine L_tableIn (off := 1050) 1083 dL_law_33 (by rw [c29]; decide) (by rw [c29]; decide) (by rw [c29]; decide +kernel) (by decide) ?_
    exact case_29 hG hw hv p29 kk
  by_cases c30 : (xs (Int32.toNatClampNeg i) &&& 63 : Int32) = 30
  · refine L_tableIn (off := 1073) 1106 dL_law_33 (by rw [c30]; decide) (by rw [c30]; decide) (by rw [c30]; decide +kernel) (by decide) ?_
    exact case_30 hG hw hv p30 kk
  by_cases c31 : (xs (Int32.toNatClampNeg i) &&& 63 : Int32) = 31
  · refine L_tableIn (off := 1116) 1149 dL_law_33 (by rw [c31]; decide) (by rw [c31]; decide) (by rw [c31]; decide +kernel) (by decide) ?_
    exact case_31 hG hw hv p31 kk
  by_cases c32 : (xs (Int32.toNatClampNeg i) &&& 63 : Int32) = 32
  · refine L_tableIn (off := 1165) 1198 dL_law_33 (by rw [c32]; decide) (by rw [c32]; decide) (by rw [c32]; decide +kernel) (by decide) ?_
    exact case_32 hG hw hv p32 kk
  by_cases c33 : (xs (Int32.toNatClampNeg i) &&& 63 : Int32) = 33
  · refine L_tableIn (off := 1178) 1211 dL_law_33 (by rw [c33]; decide) (by rw [c33]; decide) (by rw [c33]; decide +kernel) (by decide) ?_
    exact case_33 hG hw hv p33 kk
  by_cases c34 : (xs (Int32.toNatClampNeg i) &&& 63 : Int32) = 34
  · refine L_tableIn (off := 1211) 1244 dL_law_33 (by rw [c34]; decide) (by rw [c34]; decide) (by rw [c34]; decide +kernel) (by decide) ?_
    exact case_34 hG hw hv p34 kk
  by_cases c35 : (xs (Int32.toNatClampNeg i) &&& 63 : Int32) = 35
  · refine L_tableIn (off := 1234) 1267 dL_law_33 (by rw [c35]; decide) (by rw [c35]; decide) (by rw [c35]; decide +kernel) (by decide) ?_
    exact case_35 hG hw hv p35 kk
  by_cases c36 : (xs (Int32.toNatClampNeg i) &&& 63 : Int32) = 36
  · refine L_tableIn (off := 1257) 1290 dL_law_33 (by rw [c36]; decide) (by rw [c36]; decide) (by rw [c36]; decide +kernel) (by decide) ?_
    exact case_36 hG hw hv p36 kk
  by_cases c37 : (xs (Int32.toNatClampNeg i) &&& 63 : Int32) = 37
  · refine L_tableIn (off := 1280) 1313 dL_law_33 (by rw [c37]; decide) (by rw [c37]; decide) (by rw [c37]; decide +kernel) (by decide) ?_
    exact case_37 hG hw hv p37 kk
  have e0 : ¬ (xs (Int32.toNatClampNeg i) &&& 63 : Int32).toInt = 0 := fun q => c0 (Int32.toInt_inj.mp (q.trans (by decide)))
  have e1 : ¬ (xs (Int32.toNatClampNeg i) &&& 63 : Int32).toInt = 1 := fun q => c1 (Int32.toInt_inj.mp (q.trans (by decide)))
  have e2 : ¬ (xs (Int32.toNatClampNeg i) &&& 63 : Int32).toInt = 2 := fun q => c2 (Int32.toInt_inj.mp (q.trans (by decide)))
  have e3 : ¬ (xs (Int32.toNatClampNeg i) &&& 63 : Int32).toInt = 3 := fun q => c3 (Int32.toInt_inj.mp (q.trans (by decide)))
  have e4 : ¬ (xs (Int32.toNatClampNeg i) &&& 63 : Int32).toInt = 4 := fun q => c4 (Int32.toInt_inj.mp (q.trans (by decide)))
  have e5 : ¬ (xs (Int32.toNatClampNeg i) &&& 63 : Int32).toInt = 5 := fun q => c5 (Int32.toInt_inj.mp (q.trans (by decide)))
  have e6 : ¬ (xs (Int32.toNatClampNeg i) &&& 63 : Int32).toInt = 6 := fun q => c6 (Int32.toInt_inj.mp (q.trans (by decide)))
  have e7 : ¬ (xs (Int32.toNatClampNeg i) &&& 63 : Int32).toInt = 7 := fun q => c7 (Int32.toInt_inj.mp (q.trans (by decide)))
  have e8 : ¬ (xs (Int32.toNatClampNeg i) &&& 63 : Int32).toInt = 8 := fun q => c8 (Int32.toInt_inj.mp (q.trans (by decide)))
  have e9 : ¬ (xs (Int32.toNatClampNeg i) &&& 63 : Int32).toInt = 9 := fun q => c9 (Int32.toInt_inj.mp (q.trans (by decide)))
  have e10 : ¬ (xs (Int32.toNatClampNeg i) &&& 63 : Int32).toInt = 10 := fun q => c10 (Int32.toInt_inj.mp (q.trans (by decide)))
  have e11 : ¬ (xs (Int32.toNatClampNeg i) &&& 63 : Int32).toInt = 11 := fun q => c11 (Int32.toInt_inj.mp (q.trans (by decide)))
  have e12 : ¬ (xs (Int32.toNatClampNeg i) &&& 63 : Int32).toInt = 12 := fun q => c12 (Int32.toInt_inj.mp (q.trans (by decide)))
  have e13 : ¬ (xs (Int32.toNatClampNeg i) &&& 63 : Int32).toInt = 13 := fun q => c13 (Int32.toInt_inj.mp (q.trans (by decide)))
  have e14 : ¬ (xs (Int32.toNatClampNeg i) &&& 63 : Int32).toInt = 14 := fun q => c14 (Int32.toInt_inj.mp (q.trans (by decide)))
  have e15 : ¬ (xs (Int32.toNatClampNeg i) &&& 63 : Int32).toInt = 15 := fun q => c15 (Int32.toInt_inj.mp (q.trans (by decide)))
  have e16 : ¬ (xs (Int32.toNatClampNeg i) &&& 63 : Int32).toInt = 16 := fun q => c16 (Int32.toInt_inj.mp (q.trans (by decide)))
  have e17 : ¬ (xs (Int32.toNatClampNeg i) &&& 63 : Int32).toInt = 17 := fun q => c17 (Int32.toInt_inj.mp (q.trans (by decide)))
  have e18 : ¬ (xs (Int32.toNatClampNeg i) &&& 63 : Int32).toInt = 18 := fun q => c18 (Int32.toInt_inj.mp (q.trans (by decide)))
  have e19 : ¬ (xs (Int32.toNatClampNeg i) &&& 63 : Int32).toInt = 19 := fun q => c19 (Int32.toInt_inj.mp (q.trans (by decide)))
  have e20 : ¬ (xs (Int32.toNatClampNeg i) &&& 63 : Int32).toInt = 20 := fun q => c20 (Int32.toInt_inj.mp (q.trans (by decide)))
  have e21 : ¬ (xs (Int32.toNatClampNeg i) &&& 63 : Int32).toInt = 21 := fun q => c21 (Int32.toInt_inj.mp (q.trans (by decide)))
  have e22 : ¬ (xs (Int32.toNatClampNeg i) &&& 63 : Int32).toInt = 22 := fun q => c22 (Int32.toInt_inj.mp (q.trans (by decide)))
  have e23 : ¬ (xs (Int32.toNatClampNeg i) &&& 63 : Int32).toInt = 23 := fun q => c23 (Int32.toInt_inj.mp (q.trans (by decide)))
  have e24 : ¬ (xs (Int32.toNatClampNeg i) &&& 63 : Int32).toInt = 24 := fun q => c24 (Int32.toInt_inj.mp (q.trans (by decide)))
  have e25 : ¬ (xs (Int32.toNatClampNeg i) &&& 63 : Int32).toInt = 25 := fun q => c25 (Int32.toInt_inj.mp (q.trans (by decide)))
  have e26 : ¬ (xs (Int32.toNatClampNeg i) &&& 63 : Int32).toInt = 26 := fun q => c26 (Int32.toInt_inj.mp (q.trans (by decide)))
  have e27 : ¬ (xs (Int32.toNatClampNeg i) &&& 63 : Int32).toInt = 27 := fun q => c27 (Int32.toInt_inj.mp (q.trans (by decide)))
  have e28 : ¬ (xs (Int32.toNatClampNeg i) &&& 63 : Int32).toInt = 28 := fun q => c28 (Int32.toInt_inj.mp (q.trans (by decide)))
  have e29 : ¬ (xs (Int32.toNatClampNeg i) &&& 63 : Int32).toInt = 29 := fun q => c29 (Int32.toInt_inj.mp (q.trans (by decide)))
  have e30 : ¬ (xs (Int32.toNatClampNeg i) &&& 63 : Int32).toInt = 30 := fun q => c30 (Int32.toInt_inj.mp (q.trans (by decide)))
  have e31 : ¬ (xs (Int32.toNatClampNeg i) &&& 63 : Int32).toInt = 31 := fun q => c31 (Int32.toInt_inj.mp (q.trans (by decide)))
  have e32 : ¬ (xs (Int32.toNatClampNeg i) &&& 63 : Int32).toInt = 32 := fun q => c32 (Int32.toInt_inj.mp (q.trans (by decide)))
  have e33 : ¬ (xs (Int32.toNatClampNeg i) &&& 63 : Int32).toInt = 33 := fun q => c33 (Int32.toInt_inj.mp (q.trans (by decide)))
  have e34 : ¬ (xs (Int32.toNatClampNeg i) &&& 63 : Int32).toInt = 34 := fun q => c34 (Int32.toInt_inj.mp (q.trans (by decide)))
  have e35 : ¬ (xs (Int32.toNatClampNeg i) &&& 63 : Int32).toInt = 35 := fun q => c35 (Int32.toInt_inj.mp (q.trans (by decide)))
  have e36 : ¬ (xs (Int32.toNatClampNeg i) &&& 63 : Int32).toInt = 36 := fun q => c36 (Int32.toInt_inj.mp (q.trans (by decide)))
  have e37 : ¬ (xs (Int32.toNatClampNeg i) &&& 63 : Int32).toInt = 37 := fun q => c37 (Int32.toInt_inj.mp (q.trans (by decide)))
  refine L_tableOut 1336 dL_law_33 (by omega) (by decide) ?_
  exact kk _ hG hw
theorem vp_T {x : Int32} {L : Nat} (h1 : 0 ≤ x.toInt) (h2 : x.toInt < L) : vp_in x L := (ixO (ixT h1 h2)).1
theorem ofN_T {L : Nat} (h : L ≤ 3072) : (Int32.ofNat L).toInt = (L : Int) := Int32.toInt_ofNat_of_lt (by omega)
theorem law_loop {L : Nat} {xs : Nat → Int32} (hL : L ≤ 3072) (p0 : PU_feed) (p1 : PU_back) (p2 : PU_read) (p3 : PU_place) (p4 : PU_cell) (p5 : PU_goer) (p6 : PU_mow) (p7 : PU_rope) (p8 : PU_carry) (p9 : PU_beats) (p10 : PU_undo) (p11 : PU_next) (p12 : PU_together) (p13 : PU_way) (p14 : PU_leave) (p15 : PU_mows) (p16 : PU_part) (p17 : PU_meet) (p18 : PU_returns) (p19 : PU_never) (p20 : PU_stood) (p21 : PU_loud) (p22 : PU_silence) (p23 : PU_chorus) (p24 : PU_period) (p25 : PU_centre) (p26 : PU_far) (p27 : PU_pairs) (p28 : PU_then) (p29 : PU_tunesIn) (p30 : PU_year) (p31 : PU_tell) (p32 : PU_forget) (p33 : PU_fits) (p34 : PU_listen) (p35 : PU_hold) (p36 : PU_restore) (p37 : PU_count) : ∀ (m : Nat) (h0 : Hp) (i : Int32), G h0 → Ir h0 → 0 ≤ i.toInt → (L : Int) - i.toInt < m → VL L xs (lvC i) 18 [] h0 := by
  have f6 : (6 : Int32).toInt = 6 := by decide
  have eL := ofN_T hL
  have e6 := sbT (Int32.ofNat L) 6 (by omega) (by omega)
  intro m
  induction m with
  | zero =>
    intro h0 i hG hw i0 hm
    exact L_out (i := i) 3 0 (Nat.le_of_eq hG.1) (fun _ _ => rfl) (fun _ _ => rfl) (Int32.lt_iff_toInt_lt.mpr (by omega))
  | succ m ih =>
    intro h0 i hG hw i0 hm
    by_cases c : Int32.ofNat L - 6 < i
    · exact L_out (i := i) 3 0 (Nat.le_of_eq hG.1) (fun _ _ => rfl) (fun _ _ => rfl) c
    · have c' : i.toInt ≤ (Int32.ofNat L - 6).toInt := Int32.le_iff_toInt_le.mp (Int32.not_lt.mp c)
      have a6 := adT i 6 (by omega) (by omega)
      have k27 : VL L xs (lvC i) 27 [] h0 := law_switch hG hw (vp_T i0 (by omega)) (fun v v0 v6 => by
        have a := adT i v (by omega) (by omega)
        exact vp_T (by omega) (by omega)) p0 p1 p2 p3 p4 p5 p6 p7 p8 p9 p10 p11 p12 p13 p14 p15 p16 p17 p18 p19 p20 p21 p22 p23 p24 p25 p26 p27 p28 p29 p30 p31 p32 p33 p34 p35 p36 p37 (fun h hG' hw' => L_end rfl (ih h (i + 6) hG' hw' (by omega) (by omega)))
      intro l b D g p e s m below meth c0 sc H locs ls C hz hP hS hl
      have C0 := C
      obtain ⟨hx, hbc, hr, hml, hown, hts, hX, hbl, hlocks, hK, hsb⟩ := C
      have hbA : ¬ (fun q => b ≤ q) sc := Nat.not_le.mpr (by rw [← hsb]; exact hbl)
      refine lv_iload_n hx hbc dL_law_18 rfl (lv_at hl 0 rfl) ?_
      refine lv_aload_n hx hbc dL_law_19 rfl (lv_at hl 3 rfl) ?_
      refine va_slen hx hbc hX hbl hbA hS dL_law_20 ?_
      refine lv_bipush (v := 6) hx hbc dL_law_21 (by decide) ?_
      refine lv_isub hx hbc dL_law_23 ?_
      refine lv_icmp_gt (tgt := 1342) hx hbc dL_law_24 (by decide) (fun q => absurd q c) (fun _ => ?_)
      exact k27 l b D g p e s m below meth c0 sc H locs ls C0 hz hP hS hl
