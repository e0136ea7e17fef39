/-! the class comes to its end, 3 -/
set_option maxRecDepth 100000 in
set_option maxHeartbeats 4000000 in
theorem ok_X7_layOut {h0 : Hp} (n : Nat) (h : Hp) (x1 : Int32) (hn : 34359738369 ≤ n) (j : J h0 h) : Ok (F_X7_layOut n h x1) (fun q => J h0 q ∧ True) := by
  unfold F_X7_layOut
  have f1 := lit_0
  exact okW_X7_layOut_2 (h0 := h0) n h x1 0 j  (by omega) (by omega) (by omega)
set_option maxRecDepth 100000 in
set_option maxHeartbeats 4000000 in
theorem ok_X9_placeOf {h0 : Hp} (n : Nat) (h : Hp) (x1 : Int32) (hn : 1 ≤ n) (j : J h0 h) : Ok (F_X9_placeOf n h x1) (fun q => q.2 = h ∧ True) := by
  unfold F_X9_placeOf
  have f1 := rgT (x1)
  have f2 := lit_0
  refine Ok.lt (fun c3 => ?_) (fun c3 => ?_)
  · exact Ok.ret ⟨rfl, trivial⟩
  · have f4 := cR 18 5 0 401 (by decide) j
    have f5 := rgT (hi h 18 5)
    refine Ok.le (fun c6 => ?_) (fun c6 => ?_)
    · exact Ok.ret ⟨rfl, trivial⟩
    · refine Ok.chk (ixT (by omega) (by omega)) (fun c7 => ?_)
      exact Ok.ret ⟨rfl, trivial⟩
set_option maxRecDepth 100000 in
set_option maxHeartbeats 4000000 in
theorem ok_X9_kindOf {h0 : Hp} (n : Nat) (h : Hp) (x1 : Int32) (hn : 1 ≤ n) (j : J h0 h) : Ok (F_X9_kindOf n h x1) (fun q => q.2 = h ∧ True) := by
  unfold F_X9_kindOf
  have f1 := rgT (x1)
  have f2 := lit_0
  refine Ok.lt (fun c3 => ?_) (fun c3 => ?_)
  · exact Ok.ret ⟨rfl, trivial⟩
  · have f4 := cR 18 5 0 401 (by decide) j
    have f5 := rgT (hi h 18 5)
    refine Ok.le (fun c6 => ?_) (fun c6 => ?_)
    · exact Ok.ret ⟨rfl, trivial⟩
    · refine Ok.chk (ixT (by omega) (by omega)) (fun c7 => ?_)
      exact Ok.ret ⟨rfl, trivial⟩
set_option maxRecDepth 100000 in
set_option maxHeartbeats 4000000 in
theorem ok_X7_kind {h0 : Hp} (n : Nat) (h : Hp) (hn : 1 ≤ n) (j : J h0 h) : Ok (F_X7_kind n h) (fun q => q.2 = h ∧ True) := by
  unfold F_X7_kind
  refine Ok.bind (ok_X9_kindOf (h0 := h0) n h (hi h 2 4) (by omega) j ) (fun q1 hq1 => ?_)
  obtain ⟨eq1, xq1⟩ := hq1
  rw [eq1]
  exact Ok.ret ⟨rfl, trivial⟩
set_option maxRecDepth 100000 in
set_option maxHeartbeats 4000000 in
theorem ok_X7_stop {h0 : Hp} (n : Nat) (h : Hp) (x1 : Int32) (hn : 1 ≤ n) (j : J h0 h) : Ok (F_X7_stop n h x1) (fun q => J h0 q ∧ ((hi q 3 2).toInt = (hi h 3 2).toInt ∧ (x1.toInt ≠ 0 → (hi q 2 5).toInt ≠ 0))) := by
  unfold F_X7_stop
  have f1 := rgT (hi h 2 5)
  have f2 := lit_0
  refine Ok.eq (fun c3 => ?_) (fun c3 => ?_)
  · generalize eg4 : wrI h 2 5 x1 = g4
    have jg4 : J h0 g4 := JwI eg4 j (by decide)
    have f5 := congrArg Int32.toInt (hiA eg4 3 2 (by decide))
    have f6 := cR 3 2 0 5 (by decide) j
    have f7 := congrArg Int32.toInt (hiE eg4)
    have f8 := rgT (x1)
    refine Ok.ret ⟨jg4, ?_⟩
    show ((hi g4 3 2).toInt = (hi h 3 2).toInt ∧ (x1.toInt ≠ 0 → (hi g4 2 5).toInt ≠ 0))
    omega
  · have f9 := cR 3 2 0 5 (by decide) j
    refine Ok.ret ⟨j, ?_⟩
    show ((hi h 3 2).toInt = (hi h 3 2).toInt ∧ (x1.toInt ≠ 0 → (hi h 2 5).toInt ≠ 0))
    omega
set_option maxRecDepth 100000 in
set_option maxHeartbeats 4000000 in
theorem ok_X7_take {h0 : Hp} (n : Nat) (h : Hp) (x1 : Int32) (hn : 1 ≤ n) (j : J h0 h) : Ok (F_X7_take n h x1) (fun q => J h0 q.2 ∧ ((hi q.2 3 2).toInt = (hi h 3 2).toInt ∧ ((hi h 2 5).toInt ≠ 0 → q.1.toInt = 0))) := by
  unfold F_X7_take
  refine Ok.bind (ok_X9_kindOf (h0 := h0) n h (hi h 2 4) (by omega) j ) (fun q1 hq1 => ?_)
  obtain ⟨eq1, xq1⟩ := hq1
  rw [eq1]
  have f1 := rgT (q1.1)
  have f2 := rgT (x1)
  refine Ok.eq (fun c3 => ?_) (fun c3 => ?_)
  · have f4 := rgT (hi h 2 4)
    have f5 := lit_400
    refine Ok.lt (fun c6 => ?_) (fun c6 => ?_)
    · have f7 := rgT (hi h 2 5)
      have f8 := lit_0
      refine Ok.eq (fun c9 => ?_) (fun c9 => ?_)
      · generalize eg10 : wrI h 2 4 ((hi h 2 4) + 1) = g10
        have jg10 : J h0 g10 := JwI eg10 j (by decide)
        have f11 := congrArg Int32.toInt (hiK eg10 2 5 (by decide))
        have f12 := rgT (hi g10 2 5)
        refine Ok.eq (fun c13 => ?_) (fun c13 => ?_)
        · have f14 := lit_1
          have f15 := congrArg Int32.toInt (hiA eg10 3 2 (by decide))
          have f16 := cR 3 2 0 5 (by decide) j
          refine Ok.ret ⟨jg10, ?_⟩
          show ((hi g10 3 2).toInt = (hi h 3 2).toInt ∧ ((hi h 2 5).toInt ≠ 0 → ((1) : Int32).toInt = 0))
          omega
        · have f17 := congrArg Int32.toInt (hiA eg10 3 2 (by decide))
          have f18 := cR 3 2 0 5 (by decide) j
          refine Ok.ret ⟨jg10, ?_⟩
          show ((hi g10 3 2).toInt = (hi h 3 2).toInt ∧ ((hi h 2 5).toInt ≠ 0 → ((0) : Int32).toInt = 0))
          omega
      · refine Ok.eq (fun c19 => ?_) (fun c19 => ?_)
        · have f20 := lit_1
          have f21 := cR 3 2 0 5 (by decide) j
          refine Ok.ret ⟨j, ?_⟩
          show ((hi h 3 2).toInt = (hi h 3 2).toInt ∧ ((hi h 2 5).toInt ≠ 0 → ((1) : Int32).toInt = 0))
          omega
        · have f22 := cR 3 2 0 5 (by decide) j
          refine Ok.ret ⟨j, ?_⟩
          show ((hi h 3 2).toInt = (hi h 3 2).toInt ∧ ((hi h 2 5).toInt ≠ 0 → ((0) : Int32).toInt = 0))
          omega
    · refine Ok.bind (ok_X7_stop (h0 := h0) n h 2 (by omega) j ) (fun q8 hq8 => ?_)
      obtain ⟨jq8, xq8⟩ := hq8
      have f23 := rgT (hi q8 2 5)
      have f24 := lit_0
      refine Ok.eq (fun c25 => ?_) (fun c25 => ?_)
      · generalize eg26 : wrI q8 2 4 ((hi q8 2 4) + 1) = g26
        have jg26 : J h0 g26 := JwI eg26 jq8 (by decide)
        have f27 := congrArg Int32.toInt (hiK eg26 2 5 (by decide))
        have f28 := rgT (hi g26 2 5)
        refine Ok.eq (fun c29 => ?_) (fun c29 => ?_)
        · have f30 := lit_1
          have f31 := congrArg Int32.toInt (hiA eg26 3 2 (by decide))
          have f32 := cR 3 2 0 5 (by decide) jq8
          refine Ok.ret ⟨jg26, ?_⟩
          show ((hi g26 3 2).toInt = (hi h 3 2).toInt ∧ ((hi h 2 5).toInt ≠ 0 → ((1) : Int32).toInt = 0))
          omega
        · have f33 := congrArg Int32.toInt (hiA eg26 3 2 (by decide))
          have f34 := cR 3 2 0 5 (by decide) jq8
          refine Ok.ret ⟨jg26, ?_⟩
          show ((hi g26 3 2).toInt = (hi h 3 2).toInt ∧ ((hi h 2 5).toInt ≠ 0 → ((0) : Int32).toInt = 0))
          omega
      · refine Ok.eq (fun c35 => ?_) (fun c35 => ?_)
        · have f36 := lit_1
          have f37 := cR 3 2 0 5 (by decide) jq8
          refine Ok.ret ⟨jq8, ?_⟩
          show ((hi q8 3 2).toInt = (hi h 3 2).toInt ∧ ((hi h 2 5).toInt ≠ 0 → ((1) : Int32).toInt = 0))
          omega
        · have f38 := cR 3 2 0 5 (by decide) jq8
          refine Ok.ret ⟨jq8, ?_⟩
          show ((hi q8 3 2).toInt = (hi h 3 2).toInt ∧ ((hi h 2 5).toInt ≠ 0 → ((0) : Int32).toInt = 0))
          omega
  · refine Ok.bind (ok_X7_stop (h0 := h0) n h 1 (by omega) j ) (fun q13 hq13 => ?_)
    obtain ⟨jq13, xq13⟩ := hq13
    have f39 := rgT (hi q13 2 5)
    have f40 := lit_0
    refine Ok.eq (fun c41 => ?_) (fun c41 => ?_)
    · generalize eg42 : wrI q13 2 4 ((hi q13 2 4) + 1) = g42
      have jg42 : J h0 g42 := JwI eg42 jq13 (by decide)
      have f43 := congrArg Int32.toInt (hiK eg42 2 5 (by decide))
      have f44 := rgT (hi g42 2 5)
      refine Ok.eq (fun c45 => ?_) (fun c45 => ?_)
      · have f46 := lit_1
        have f47 := congrArg Int32.toInt (hiA eg42 3 2 (by decide))
        have f48 := cR 3 2 0 5 (by decide) jq13
        refine Ok.ret ⟨jg42, ?_⟩
        show ((hi g42 3 2).toInt = (hi h 3 2).toInt ∧ ((hi h 2 5).toInt ≠ 0 → ((1) : Int32).toInt = 0))
        omega
      · have f49 := congrArg Int32.toInt (hiA eg42 3 2 (by decide))
        have f50 := cR 3 2 0 5 (by decide) jq13
        refine Ok.ret ⟨jg42, ?_⟩
        show ((hi g42 3 2).toInt = (hi h 3 2).toInt ∧ ((hi h 2 5).toInt ≠ 0 → ((0) : Int32).toInt = 0))
        omega
    · refine Ok.eq (fun c51 => ?_) (fun c51 => ?_)
      · have f52 := lit_1
        have f53 := cR 3 2 0 5 (by decide) jq13
        refine Ok.ret ⟨jq13, ?_⟩
        show ((hi q13 3 2).toInt = (hi h 3 2).toInt ∧ ((hi h 2 5).toInt ≠ 0 → ((1) : Int32).toInt = 0))
        omega
      · have f54 := cR 3 2 0 5 (by decide) jq13
        refine Ok.ret ⟨jq13, ?_⟩
        show ((hi q13 3 2).toInt = (hi h 3 2).toInt ∧ ((hi h 2 5).toInt ≠ 0 → ((0) : Int32).toInt = 0))
        omega
set_option maxRecDepth 100000 in
set_option maxHeartbeats 4000000 in
theorem ok_X9_valueOf {h0 : Hp} (n : Nat) (h : Hp) (x1 : Int32) (hn : 1 ≤ n) (j : J h0 h) : Ok (F_X9_valueOf n h x1) (fun q => q.2 = h ∧ True) := by
  unfold F_X9_valueOf
  have f1 := rgT (x1)
  have f2 := lit_0
  refine Ok.lt (fun c3 => ?_) (fun c3 => ?_)
  · exact Ok.ret ⟨rfl, trivial⟩
  · have f4 := cR 18 5 0 401 (by decide) j
    have f5 := rgT (hi h 18 5)
    refine Ok.le (fun c6 => ?_) (fun c6 => ?_)
    · exact Ok.ret ⟨rfl, trivial⟩
    · refine Ok.chk (ixT (by omega) (by omega)) (fun c7 => ?_)
      exact Ok.ret ⟨rfl, trivial⟩
set_option maxRecDepth 100000 in
set_option maxHeartbeats 4000000 in
theorem ok_X7_takeNumber {h0 : Hp} (n : Nat) (h : Hp) (x1 : Int32) (x2 : Int32) (hn : 1 ≤ n) (j : J h0 h) : Ok (F_X7_takeNumber n h x1 x2) (fun q => J h0 q.2 ∧ (hi q.2 3 2).toInt = (hi h 3 2).toInt) := by
  unfold F_X7_takeNumber
  refine Ok.bind (ok_X9_valueOf (h0 := h0) n h (hi h 2 4) (by omega) j ) (fun q1 hq1 => ?_)
  obtain ⟨eq1, xq1⟩ := hq1
  rw [eq1]
  refine Ok.bind (ok_X9_placeOf (h0 := h0) n h (hi h 2 4) (by omega) j ) (fun q3 hq3 => ?_)
  obtain ⟨eq3, xq3⟩ := hq3
  rw [eq3]
  refine Ok.bind (ok_X7_take (h0 := h0) n h 30 (by omega) j ) (fun q5 hq5 => ?_)
  obtain ⟨jq5, xq5⟩ := hq5
  have f1 := rgT (q5.1)
  have f2 := lit_0
  refine Ok.eq (fun c3 => ?_) (fun c3 => ?_)
  · have f4 := rgT (x1)
    have f5 := cR 3 2 0 5 (by decide) jq5
    refine Ok.ret ⟨jq5, ?_⟩
    show (hi q5.2 3 2).toInt = (hi h 3 2).toInt
    omega
  · have f6 := rgT ((q1.1 : Int64).toInt32)
    have f7 := rgT (x1)
    refine Ok.lt (fun c8 => ?_) (fun c8 => ?_)
    · refine Ok.bind (ok_X7_blame (h0 := h0) n q5.2 5 q3.1 (by omega) jq5 ) (fun q9 hq9 => ?_)
      obtain ⟨jq9, xq9⟩ := hq9
      have f9 := rgT (if x1 < (if (q1.1 : Int64).toInt32 < x2 then (q1.1 : Int64).toInt32 else x2) then (if (q1.1 : Int64).toInt32 < x2 then (q1.1 : Int64).toInt32 else x2) else x1)
      have f10 := cR 3 2 0 5 (by decide) jq9
      refine Ok.ret ⟨jq9, ?_⟩
      show (hi q9 3 2).toInt = (hi h 3 2).toInt
      omega
    · have f11 := rgT (x2)
      refine Ok.le (fun c12 => ?_) (fun c12 => ?_)
      · have f13 := rgT (if x1 < (if (q1.1 : Int64).toInt32 < x2 then (q1.1 : Int64).toInt32 else x2) then (if (q1.1 : Int64).toInt32 < x2 then (q1.1 : Int64).toInt32 else x2) else x1)
        have f14 := cR 3 2 0 5 (by decide) jq5
        refine Ok.ret ⟨jq5, ?_⟩
        show (hi q5.2 3 2).toInt = (hi h 3 2).toInt
        omega
      · refine Ok.bind (ok_X7_blame (h0 := h0) n q5.2 5 q3.1 (by omega) jq5 ) (fun q12 hq12 => ?_)
        obtain ⟨jq12, xq12⟩ := hq12
        have f15 := rgT (if x1 < (if (q1.1 : Int64).toInt32 < x2 then (q1.1 : Int64).toInt32 else x2) then (if (q1.1 : Int64).toInt32 < x2 then (q1.1 : Int64).toInt32 else x2) else x1)
        have f16 := cR 3 2 0 5 (by decide) jq12
        refine Ok.ret ⟨jq12, ?_⟩
        show (hi q12 3 2).toInt = (hi h 3 2).toInt
        omega
set_option maxRecDepth 100000 in
set_option maxHeartbeats 4000000 in
theorem ok_X7_readLawn {h0 : Hp} (n : Nat) (h : Hp) (hn : 17179869185 ≤ n) (j : J h0 h) : Ok (F_X7_readLawn n h) (fun q => J h0 q ∧ True) := by
  unfold F_X7_readLawn
  refine Ok.bind (ok_X7_take (h0 := h0) n h 9 (by omega) j ) (fun q1 hq1 => ?_)
  obtain ⟨jq1, xq1⟩ := hq1
  refine Ok.bind (ok_X7_takeNumber (h0 := h0) n q1.2 2 5 (by omega) jq1 ) (fun q3 hq3 => ?_)
  obtain ⟨jq3, xq3⟩ := hq3
  refine Ok.bind (ok_X7_takeNumber (h0 := h0) n q3.2 2 5 (by omega) jq3 ) (fun q5 hq5 => ?_)
  obtain ⟨jq5, xq5⟩ := hq5
  refine Ok.bind (ok_X3_lay (h0 := h0) n q5.2 4 q3.1 q5.1 (by omega) jq5 fd_4) (fun q7 hq7 => ?_)
  obtain ⟨jq7, xq7⟩ := hq7
  exact Ok.ret ⟨jq7, trivial⟩
set_option maxRecDepth 100000 in
set_option maxHeartbeats 4000000 in
theorem ok_X7_takeSpot {h0 : Hp} (n : Nat) (h : Hp) (hn : 1 ≤ n) (j : J h0 h) : Ok (F_X7_takeSpot n h) (fun q => J h0 q.2 ∧ (hi q.2 3 2).toInt = (hi h 3 2).toInt) := by
  unfold F_X7_takeSpot
  refine Ok.bind (ok_X7_takeNumber (h0 := h0) n h 0 4 (by omega) j ) (fun q1 hq1 => ?_)
  obtain ⟨jq1, xq1⟩ := hq1
  refine Ok.bind (ok_X7_takeNumber (h0 := h0) n q1.2 0 4 (by omega) jq1 ) (fun q3 hq3 => ?_)
  obtain ⟨jq3, xq3⟩ := hq3
  have f1 := rgT (q1.1)
  have f2 := lit_5
  have f3 := rgT (q3.1)
  have f4 := mlT (5) (q3.1) (5) lit_5
  have f5 := adT (q1.1) (5 * q3.1)
  have f6 := rgT (q1.1 + (5 * q3.1))
  have f7 := cR 3 2 0 5 (by decide) jq3
  refine Ok.ret ⟨jq3, ?_⟩
  show (hi q3.2 3 2).toInt = (hi h 3 2).toInt
  omega
set_option maxRecDepth 100000 in
set_option maxHeartbeats 4000000 in
theorem ok_X7_readTune {h0 : Hp} (n : Nat) (h : Hp) (hn : 1 ≤ n) (j : J h0 h) : Ok (F_X7_readTune n h) (fun q => J h0 q ∧ True) := by
  unfold F_X7_readTune
  have f1 := rgT (hi h 2 13)
  have f2 := lit_8
  refine Ok.lt (fun c3 => ?_) (fun c3 => ?_)
  · generalize eg4 : wrI h 2 13 ((hi h 2 13) + 1) = g4
    have jg4 : J h0 g4 := JwI eg4 j (by decide)
    refine Ok.bind (ok_X7_take (h0 := h0) n g4 10 (by omega) jg4 ) (fun q2 hq2 => ?_)
    obtain ⟨jq2, xq2⟩ := hq2
    refine Ok.bind (ok_X7_takeSpot (h0 := h0) n q2.2  (by omega) jq2 ) (fun q4 hq4 => ?_)
    obtain ⟨jq4, xq4⟩ := hq4
    refine Ok.bind (ok_X7_takeNumber (h0 := h0) n q4.2 2 6 (by omega) jq4 ) (fun q6 hq6 => ?_)
    obtain ⟨jq6, xq6⟩ := hq6
    refine Ok.bind (ok_X7_takeNumber (h0 := h0) n q6.2 0 (q6.1 - 1) (by omega) jq6 ) (fun q8 hq8 => ?_)
    obtain ⟨jq8, xq8⟩ := hq8
    have f5 := rgT (q4.1)
    have f6 := lit_0
    refine Ok.lt (fun c7 => ?_) (fun c7 => ?_)
    · exact Ok.ret ⟨jq8, trivial⟩
    · have f8 := lit_25
      refine Ok.le (fun c9 => ?_) (fun c9 => ?_)
      · exact Ok.ret ⟨jq8, trivial⟩
      · refine Ok.chk (ixT (by omega) (by omega)) (fun c10 => ?_)
        refine Ok.pos c10 ?_
        generalize eg11 : wrI q8.2 16 (Int32.toNatClampNeg q4.1) q6.1 = g11
        have jg11 : J h0 g11 := JwI eg11 jq8 (ncO_nc (by decide))
        generalize eg12 : wrI g11 17 (Int32.toNatClampNeg q4.1) q8.1 = g12
        have jg12 : J h0 g12 := JwI eg12 jg11 (ncO_nc (by decide))
        exact Ok.ret ⟨jg12, trivial⟩
  · refine Ok.bind (ok_X7_stop (h0 := h0) n h 2 (by omega) j ) (fun q14 hq14 => ?_)
    obtain ⟨jq14, xq14⟩ := hq14
    generalize eg13 : wrI q14 2 13 ((hi q14 2 13) + 1) = g13
    have jg13 : J h0 g13 := JwI eg13 jq14 (by decide)
    refine Ok.bind (ok_X7_take (h0 := h0) n g13 10 (by omega) jg13 ) (fun q16 hq16 => ?_)
    obtain ⟨jq16, xq16⟩ := hq16
    refine Ok.bind (ok_X7_takeSpot (h0 := h0) n q16.2  (by omega) jq16 ) (fun q18 hq18 => ?_)
    obtain ⟨jq18, xq18⟩ := hq18
    refine Ok.bind (ok_X7_takeNumber (h0 := h0) n q18.2 2 6 (by omega) jq18 ) (fun q20 hq20 => ?_)
    obtain ⟨jq20, xq20⟩ := hq20
    refine Ok.bind (ok_X7_takeNumber (h0 := h0) n q20.2 0 (q20.1 - 1) (by omega) jq20 ) (fun q22 hq22 => ?_)
    obtain ⟨jq22, xq22⟩ := hq22
    have f14 := rgT (q18.1)
    have f15 := lit_0
    refine Ok.lt (fun c16 => ?_) (fun c16 => ?_)
    · exact Ok.ret ⟨jq22, trivial⟩
    · have f17 := lit_25
      refine Ok.le (fun c18 => ?_) (fun c18 => ?_)
      · exact Ok.ret ⟨jq22, trivial⟩
      · refine Ok.chk (ixT (by omega) (by omega)) (fun c19 => ?_)
        refine Ok.pos c19 ?_
        generalize eg20 : wrI q22.2 16 (Int32.toNatClampNeg q18.1) q20.1 = g20
        have jg20 : J h0 g20 := JwI eg20 jq22 (ncO_nc (by decide))
        generalize eg21 : wrI g20 17 (Int32.toNatClampNeg q18.1) q22.1 = g21
        have jg21 : J h0 g21 := JwI eg21 jg20 (ncO_nc (by decide))
        exact Ok.ret ⟨jg21, trivial⟩
set_option maxRecDepth 100000 in
set_option maxHeartbeats 4000000 in
theorem okW_X7_readGoer_64 {h0 : Hp} : ∀ (n : Nat), (∀ (h : Hp) (l1 : Int32) (l2 : Int32) (l3 : Int32), J h0 h → 0 ≤ l1.toInt → l1.toInt < 5 → 0 ≤ l3.toInt → (hi h 3 2).toInt = l1.toInt → (1 : Int) < n → (1 : Int) + (l1.toInt - l3.toInt) < n → Ok (W_X7_readGoer n 64 h l1 l2 l3) (fun q => J h0 q ∧ True)) := by
  intro n
  induction n with
  | zero => intro h l1 l2 l3 j i0 i1 i2 i3 hB hM; exfalso; omega
  | succ n ih =>
    intro h l1 l2 l3 j i0 i1 i2 i3 hB hM
    rw [u_X7_readGoer]
    refine Ok.pos rfl ?_
    have f1 := rgT (l1)
    have f2 := rgT (l3)
    refine Ok.le (fun c3 => ?_) (fun c3 => ?_)
    · refine Ok.bind (ok_X7_takeSpot (h0 := h0) n h  (by omega) j ) (fun q2 hq2 => ?_)
      obtain ⟨jq2, xq2⟩ := hq2
      refine Ok.chk (ixT (by omega) (by omega)) (fun c4 => ?_)
      generalize eg5 : wrI q2.2 15 (Int32.toNatClampNeg l1) q2.1 = g5
      have jg5 : J h0 g5 := JwI eg5 jq2 (ncO_nc (by decide))
      generalize eg6 : wrI g5 3 2 ((hi g5 3 2) + 1) = g6
      have f7 := congrArg Int32.toInt (hiA eg5 3 2 (by decide))
      have f8 := cR 3 2 0 5 (by decide) jq2
      have f9 := rgT (hi g5 3 2)
      have f10 := lit_1
      have f11 := adT (hi g5 3 2) (1)
      have f12 := rgT ((hi g5 3 2) + 1)
      have jg6 : J h0 g6 := JwC 0 5 eg6 jg5 (by decide) ⟨by omega, by omega⟩
      exact Ok.ret ⟨jg6, trivial⟩
    · refine Ok.chk (ixT (by omega) (by omega)) (fun c13 => ?_)
      refine Ok.chk (ixT (by omega) (by omega)) (fun c14 => ?_)
      have f15 := rgT (lg_cmp (hl h 14 (Int32.toNatClampNeg l3)) (hl h 14 (Int32.toNatClampNeg l1)))
      have f16 := lit_0
      refine Ok.eq (fun c17 => ?_) (fun c17 => ?_)
      · refine Ok.bind (ok_X7_blame (h0 := h0) n h 3 l2 (by omega) j ) (fun q8 hq8 => ?_)
        obtain ⟨jq8, xq8⟩ := hq8
        have f18 := lit_1
        have f19 := adT (l3) (1)
        have f20 := rgT (l3 + 1)
        have f21 := cR 3 2 0 5 (by decide) jq8
        exact ih q8 l1 l2 (l3 + 1) jq8  (by omega) (by omega) (by omega) (by omega) (by omega) (by omega)
      · have f22 := lit_1
        have f23 := adT (l3) (1)
        have f24 := rgT (l3 + 1)
        have f25 := cR 3 2 0 5 (by decide) j
        exact ih h l1 l2 (l3 + 1) j  (by omega) (by omega) (by omega) (by omega) (by omega) (by omega)
set_option maxRecDepth 100000 in
set_option maxHeartbeats 4000000 in
theorem ok_X7_readGoer {h0 : Hp} (n : Nat) (h : Hp) (hn : 17179869185 ≤ n) (j : J h0 h) : Ok (F_X7_readGoer n h) (fun q => J h0 q ∧ True) := by
  unfold F_X7_readGoer
  have f1 := cR 3 2 0 5 (by decide) j
  have f2 := rgT (hi h 3 2)
  have f3 := lit_5
  refine Ok.lt (fun c4 => ?_) (fun c4 => ?_)
  · refine Ok.bind (ok_X7_take (h0 := h0) n h 11 (by omega) j ) (fun q11 hq11 => ?_)
    obtain ⟨jq11, xq11⟩ := hq11
    refine Ok.bind (ok_X9_valueOf (h0 := h0) n q11.2 (hi q11.2 2 4) (by omega) jq11 ) (fun q13 hq13 => ?_)
    obtain ⟨eq13, xq13⟩ := hq13
    rw [eq13]
    refine Ok.chk (ixT (by omega) (by omega)) (fun c5 => ?_)
    generalize eg6 : wrL q11.2 14 (Int32.toNatClampNeg (hi h 3 2)) q13.1 = g6
    have jg6 : J h0 g6 := JwL eg6 jq11 (by decide)
    refine Ok.bind (ok_X9_placeOf (h0 := h0) n g6 (hi g6 2 4) (by omega) jg6 ) (fun q16 hq16 => ?_)
    obtain ⟨eq16, xq16⟩ := hq16
    rw [eq16]
    refine Ok.bind (ok_X7_take (h0 := h0) n g6 31 (by omega) jg6 ) (fun q18 hq18 => ?_)
    obtain ⟨jq18, xq18⟩ := hq18
    have f7 := lit_0
    have f8 := cR 3 2 0 5 (by decide) jq18
    exact okW_X7_readGoer_64 (h0 := h0) n q18.2 (hi h 3 2) q16.1 0 jq18  (by omega) (by omega) (by omega) (by omega) (by omega) (by omega)
  · refine Ok.bind (ok_X7_stop (h0 := h0) n h 2 (by omega) j ) (fun q20 hq20 => ?_)
    obtain ⟨jq20, xq20⟩ := hq20
    exact Ok.ret ⟨jq20, trivial⟩
set_option maxRecDepth 100000 in
set_option maxHeartbeats 4000000 in
theorem ok_X7_readRope {h0 : Hp} (n : Nat) (h : Hp) (hn : 1 ≤ n) (j : J h0 h) : Ok (F_X7_readRope n h) (fun q => J h0 q ∧ True) := by
  unfold F_X7_readRope
  have f1 := rgT (hi h 2 14)
  have f2 := lit_8
  refine Ok.lt (fun c3 => ?_) (fun c3 => ?_)
  · generalize eg4 : wrI h 2 14 ((hi h 2 14) + 1) = g4
    have jg4 : J h0 g4 := JwI eg4 j (by decide)
    refine Ok.bind (ok_X7_take (h0 := h0) n g4 12 (by omega) jg4 ) (fun q2 hq2 => ?_)
    obtain ⟨jq2, xq2⟩ := hq2
    refine Ok.bind (ok_X7_takeSpot (h0 := h0) n q2.2  (by omega) jq2 ) (fun q4 hq4 => ?_)
    obtain ⟨jq4, xq4⟩ := hq4
    generalize eg5 : wrI q4.2 2 12 (((hi q2.2 2 12) : Int32) ||| (((1 : Int32) <<< ((q4.1 : Int32) &&& 31)) : Int32)) = g5
    have jg5 : J h0 g5 := JwI eg5 jq4 (by decide)
    exact Ok.ret ⟨jg5, trivial⟩
  · refine Ok.bind (ok_X7_stop (h0 := h0) n h 2 (by omega) j ) (fun q6 hq6 => ?_)
    obtain ⟨jq6, xq6⟩ := hq6
    generalize eg6 : wrI q6 2 14 ((hi q6 2 14) + 1) = g6
    have jg6 : J h0 g6 := JwI eg6 jq6 (by decide)
    refine Ok.bind (ok_X7_take (h0 := h0) n g6 12 (by omega) jg6 ) (fun q8 hq8 => ?_)
    obtain ⟨jq8, xq8⟩ := hq8
    refine Ok.bind (ok_X7_takeSpot (h0 := h0) n q8.2  (by omega) jq8 ) (fun q10 hq10 => ?_)
    obtain ⟨jq10, xq10⟩ := hq10
    generalize eg7 : wrI q10.2 2 12 (((hi q8.2 2 12) : Int32) ||| (((1 : Int32) <<< ((q10.1 : Int32) &&& 31)) : Int32)) = g7
    have jg7 : J h0 g7 := JwI eg7 jq10 (by decide)
    exact Ok.ret ⟨jg7, trivial⟩
set_option maxRecDepth 100000 in
set_option maxHeartbeats 4000000 in
theorem ok_X7_readUnit {h0 : Hp} {e : Nat} {S : Nat → Hp → Int32 → Option Hp} (hS : ∀ (n : Nat) (h : Hp) (x1 : Int32), 584115552256 ≤ n → J h0 h → 0 ≤ x1.toInt → x1.toInt ≤ 6 → 7 - x1.toInt ≤ e - 1 → Ok (S n h x1) (fun q => J h0 q ∧ True)) (n : Nat) (h : Hp) (x1 : Int32) (hn : 584115552256 ≤ n) (j : J h0 h) (p0 : 0 ≤ x1.toInt) (p1 : x1.toInt ≤ 6) (p2 : 7 - x1.toInt ≤ e) : Ok (F_X7_readUnit S n h x1) (fun q => J h0 q ∧ True) := by
  unfold F_X7_readUnit
  refine Ok.bind (ok_X7_kind (h0 := h0) n h  (by omega) j ) (fun q1 hq1 => ?_)
  obtain ⟨eq1, xq1⟩ := hq1
  rw [eq1]
  have f1 := rgT (q1.1)
  have f2 := lit_30
  refine Ok.eq (fun c3 => ?_) (fun c3 => ?_)
  · refine Ok.bind (ok_X9_valueOf (h0 := h0) n h (hi h 2 4) (by omega) j ) (fun q50 hq50 => ?_)
    obtain ⟨eq50, xq50⟩ := hq50
    rw [eq50]
    refine Ok.bind (ok_X4_add (h0 := h0) n h 5 (q50.1 : Int64) .toInt32 (by omega) j lw_5) (fun q52 hq52 => ?_)
    obtain ⟨jq52, xq52⟩ := hq52
    refine Ok.bind (ok_X7_take (h0 := h0) n q52 q1.1 (by omega) jq52 ) (fun q54 hq54 => ?_)
    obtain ⟨jq54, xq54⟩ := hq54
    exact Ok.ret ⟨jq54, trivial⟩
  · have f4 := lit_0
    refine Ok.lt (fun c5 => ?_) (fun c5 => ?_)
    · have f6 := lit_40
      refine Ok.eq (fun c7 => ?_) (fun c7 => ?_)
      · have f8 := rgT (x1)
        have f9 := lit_6
        refine Ok.lt (fun c10 => ?_) (fun c10 => ?_)
        · refine Ok.bind (ok_X7_take (h0 := h0) n h q1.1 (by omega) j ) (fun q7 hq7 => ?_)
          obtain ⟨jq7, xq7⟩ := hq7
          have f11 := rgT (q7.1)
          refine Ok.eq (fun c12 => ?_) (fun c12 => ?_)
          · exact Ok.ret ⟨jq7, trivial⟩
          · have f13 := lit_1
            have f14 := adT (x1) (1)
            have f15 := rgT (x1 + 1)
            refine Ok.bind (hS n q7.2 (x1 + 1) (by omega) jq7 (by omega) (by omega) (by omega)) (fun q10 hq10 => ?_)
            obtain ⟨jq10, xq10⟩ := hq10
            refine Ok.bind (ok_X7_take (h0 := h0) n q10 41 (by omega) jq10 ) (fun q12 hq12 => ?_)
            obtain ⟨jq12, xq12⟩ := hq12
            exact Ok.ret ⟨jq12, trivial⟩
        · refine Ok.bind (ok_X7_stop (h0 := h0) n h 2 (by omega) j ) (fun q14 hq14 => ?_)
          obtain ⟨jq14, xq14⟩ := hq14
          refine Ok.bind (ok_X7_take (h0 := h0) n q14 q1.1 (by omega) jq14 ) (fun q16 hq16 => ?_)
          obtain ⟨jq16, xq16⟩ := hq16
          have f16 := rgT (q16.1)
          refine Ok.eq (fun c17 => ?_) (fun c17 => ?_)
          · exact Ok.ret ⟨jq16, trivial⟩
          · have f18 := lit_1
            have f19 := adT (x1) (1)
            have f20 := rgT (x1 + 1)
            refine Ok.bind (hS n q16.2 (x1 + 1) (by omega) jq16 (by omega) (by omega) (by omega)) (fun q19 hq19 => ?_)
            obtain ⟨jq19, xq19⟩ := hq19
            refine Ok.bind (ok_X7_take (h0 := h0) n q19 41 (by omega) jq19 ) (fun q21 hq21 => ?_)
            obtain ⟨jq21, xq21⟩ := hq21
            exact Ok.ret ⟨jq21, trivial⟩
      · refine Ok.bind (ok_X7_stop (h0 := h0) n h 1 (by omega) j ) (fun q23 hq23 => ?_)
        obtain ⟨jq23, xq23⟩ := hq23
        exact Ok.ret ⟨jq23, trivial⟩
    · have f21 := lit_9
      refine Ok.le (fun c22 => ?_) (fun c22 => ?_)
      · have f23 := lit_40
        refine Ok.eq (fun c24 => ?_) (fun c24 => ?_)
        · have f25 := rgT (x1)
          have f26 := lit_6
          refine Ok.lt (fun c27 => ?_) (fun c27 => ?_)
          · refine Ok.bind (ok_X7_take (h0 := h0) n h q1.1 (by omega) j ) (fun q28 hq28 => ?_)
            obtain ⟨jq28, xq28⟩ := hq28
            have f28 := rgT (q28.1)
            refine Ok.eq (fun c29 => ?_) (fun c29 => ?_)
            · exact Ok.ret ⟨jq28, trivial⟩
            · have f30 := lit_1
              have f31 := adT (x1) (1)
              have f32 := rgT (x1 + 1)
              refine Ok.bind (hS n q28.2 (x1 + 1) (by omega) jq28 (by omega) (by omega) (by omega)) (fun q31 hq31 => ?_)
              obtain ⟨jq31, xq31⟩ := hq31
              refine Ok.bind (ok_X7_take (h0 := h0) n q31 41 (by omega) jq31 ) (fun q33 hq33 => ?_)
              obtain ⟨jq33, xq33⟩ := hq33
              exact Ok.ret ⟨jq33, trivial⟩
          · refine Ok.bind (ok_X7_stop (h0 := h0) n h 2 (by omega) j ) (fun q35 hq35 => ?_)
            obtain ⟨jq35, xq35⟩ := hq35
            refine Ok.bind (ok_X7_take (h0 := h0) n q35 q1.1 (by omega) jq35 ) (fun q37 hq37 => ?_)
            obtain ⟨jq37, xq37⟩ := hq37
            have f33 := rgT (q37.1)
            refine Ok.eq (fun c34 => ?_) (fun c34 => ?_)
            · exact Ok.ret ⟨jq37, trivial⟩
            · have f35 := lit_1
              have f36 := adT (x1) (1)
              have f37 := rgT (x1 + 1)
              refine Ok.bind (hS n q37.2 (x1 + 1) (by omega) jq37 (by omega) (by omega) (by omega)) (fun q40 hq40 => ?_)
              obtain ⟨jq40, xq40⟩ := hq40
              refine Ok.bind (ok_X7_take (h0 := h0) n q40 41 (by omega) jq40 ) (fun q42 hq42 => ?_)
              obtain ⟨jq42, xq42⟩ := hq42
              exact Ok.ret ⟨jq42, trivial⟩
        · refine Ok.bind (ok_X7_stop (h0 := h0) n h 1 (by omega) j ) (fun q44 hq44 => ?_)
          obtain ⟨jq44, xq44⟩ := hq44
          exact Ok.ret ⟨jq44, trivial⟩
      · refine Ok.bind (ok_X4_add (h0 := h0) n h 5 ((-1) - q1.1) (by omega) j lw_5) (fun q46 hq46 => ?_)
        obtain ⟨jq46, xq46⟩ := hq46
        refine Ok.bind (ok_X7_take (h0 := h0) n q46 q1.1 (by omega) jq46 ) (fun q48 hq48 => ?_)
        obtain ⟨jq48, xq48⟩ := hq48
        exact Ok.ret ⟨jq48, trivial⟩
set_option maxRecDepth 100000 in
set_option maxHeartbeats 4000000 in
theorem okW_X7_readSum_9 {h0 : Hp} {e : Nat} {S : Nat → Hp → Int32 → Option Hp} (hS : ∀ (n : Nat) (h : Hp) (x1 : Int32), 584115552256 ≤ n → J h0 h → 0 ≤ x1.toInt → x1.toInt ≤ 6 → 7 - x1.toInt ≤ e - 1 → Ok (S n h x1) (fun q => J h0 q ∧ True)) : ∀ (n : Nat), (∀ (h : Hp) (l1 : Int32) (l2 : Int32) (l3 : Int32), J h0 h → 0 ≤ l1.toInt → l1.toInt ≤ 6 → 7 - l1.toInt ≤ e → (584115552256 : Int) < n → (584115552256 : Int) + (401 - l3.toInt) < n → Ok (W_X7_readSum S n 9 h l1 l2 l3) (fun q => J h0 q ∧ True)) := by
  intro n
  induction n with
  | zero => intro h l1 l2 l3 j i0 i1 i2 hB hM; exfalso; omega
  | succ n ih =>
    intro h l1 l2 l3 j i0 i1 i2 hB hM
    rw [u_X7_readSum]
    refine Ok.pos rfl ?_
    have f1 := lit_400
    have f2 := rgT (l3)
    refine Ok.lt (fun c3 => ?_) (fun c3 => ?_)
    · exact Ok.ret ⟨j, trivial⟩
    · have f4 := rgT (hi h 2 5)
      have f5 := lit_0
      refine Ok.eq (fun c6 => ?_) (fun c6 => ?_)
      · refine Ok.bind (ok_X7_kind (h0 := h0) n h  (by omega) j ) (fun q3 hq3 => ?_)
        obtain ⟨eq3, xq3⟩ := hq3
        rw [eq3]
        have f7 := rgT (q3.1)
        have f8 := lit_42
        refine Ok.eq (fun c9 => ?_) (fun c9 => ?_)
        · refine Ok.bind (ok_X7_take (h0 := h0) n h q3.1 (by omega) j ) (fun q6 hq6 => ?_)
          obtain ⟨jq6, xq6⟩ := hq6
          have f10 := rgT (l1)
          refine Ok.bind (ok_X7_readUnit (h0 := h0) hS n q6.2 l1 (by omega) jq6 (by omega) (by omega) (by omega)) (fun q8 hq8 => ?_)
          obtain ⟨jq8, xq8⟩ := hq8
          refine Ok.eq (fun c11 => ?_) (fun c11 => ?_)
          · refine Ok.bind (ok_X4_add (h0 := h0) n q8 5 (-12) (by omega) jq8 lw_5) (fun q13 hq13 => ?_)
            obtain ⟨jq13, xq13⟩ := hq13
            have f12 := lit_1
            have f13 := adT (l3) (1)
            have f14 := rgT (l3 + 1)
            exact ih q13 l1 l2 (l3 + 1) jq13  (by omega) (by omega) (by omega) (by omega) (by omega)
          · refine Ok.bind (ok_X4_add (h0 := h0) n q8 5 (-13) (by omega) jq8 lw_5) (fun q11 hq11 => ?_)
            obtain ⟨jq11, xq11⟩ := hq11
            have f15 := lit_1
            have f16 := adT (l3) (1)
            have f17 := rgT (l3 + 1)
            exact ih q11 l1 l2 (l3 + 1) jq11  (by omega) (by omega) (by omega) (by omega) (by omega)
        · have f18 := lit_47
          refine Ok.eq (fun c19 => ?_) (fun c19 => ?_)
          · refine Ok.bind (ok_X7_take (h0 := h0) n h q3.1 (by omega) j ) (fun q52 hq52 => ?_)
            obtain ⟨jq52, xq52⟩ := hq52
            have f20 := rgT (l1)
            refine Ok.bind (ok_X7_readUnit (h0 := h0) hS n q52.2 l1 (by omega) jq52 (by omega) (by omega) (by omega)) (fun q54 hq54 => ?_)
            obtain ⟨jq54, xq54⟩ := hq54
            refine Ok.eq (fun c21 => ?_) (fun c21 => ?_)
            · refine Ok.bind (ok_X4_add (h0 := h0) n q54 5 (-12) (by omega) jq54 lw_5) (fun q59 hq59 => ?_)
              obtain ⟨jq59, xq59⟩ := hq59
              have f22 := lit_1
              have f23 := adT (l3) (1)
              have f24 := rgT (l3 + 1)
              exact ih q59 l1 l2 (l3 + 1) jq59  (by omega) (by omega) (by omega) (by omega) (by omega)
            · refine Ok.bind (ok_X4_add (h0 := h0) n q54 5 (-13) (by omega) jq54 lw_5) (fun q57 hq57 => ?_)
              obtain ⟨jq57, xq57⟩ := hq57
              have f25 := lit_1
              have f26 := adT (l3) (1)
              have f27 := rgT (l3 + 1)
              exact ih q57 l1 l2 (l3 + 1) jq57  (by omega) (by omega) (by omega) (by omega) (by omega)
          · have f28 := rgT (l2)
            refine Ok.eq (fun c29 => ?_) (fun c29 => ?_)
            · have f30 := lit_43
              refine Ok.eq (fun c31 => ?_) (fun c31 => ?_)
              · refine Ok.bind (ok_X7_take (h0 := h0) n h q3.1 (by omega) j ) (fun q18 hq18 => ?_)
                obtain ⟨jq18, xq18⟩ := hq18
                have f32 := rgT (l1)
                refine Ok.bind (ok_X7_readUnit (h0 := h0) hS n q18.2 l1 (by omega) jq18 (by omega) (by omega) (by omega)) (fun q20 hq20 => ?_)
                obtain ⟨jq20, xq20⟩ := hq20
                have f33 := lit_1
                have f34 := adT (l3) (1)
                have f35 := rgT (l3 + 1)
                exact ih q20 l1 q3.1 (l3 + 1) jq20  (by omega) (by omega) (by omega) (by omega) (by omega)
              · have f36 := lit_45
                refine Ok.eq (fun c37 => ?_) (fun c37 => ?_)
                · refine Ok.bind (ok_X7_take (h0 := h0) n h q3.1 (by omega) j ) (fun q23 hq23 => ?_)
                  obtain ⟨jq23, xq23⟩ := hq23
                  have f38 := rgT (l1)
                  refine Ok.bind (ok_X7_readUnit (h0 := h0) hS n q23.2 l1 (by omega) jq23 (by omega) (by omega) (by omega)) (fun q25 hq25 => ?_)
                  obtain ⟨jq25, xq25⟩ := hq25
                  have f39 := lit_1
                  have f40 := adT (l3) (1)
                  have f41 := rgT (l3 + 1)
                  exact ih q25 l1 q3.1 (l3 + 1) jq25  (by omega) (by omega) (by omega) (by omega) (by omega)
                · exact Ok.ret ⟨j, trivial⟩
            · have f42 := lit_43
              refine Ok.eq (fun c43 => ?_) (fun c43 => ?_)
              · refine Ok.bind (ok_X4_add (h0 := h0) n h 5 (-10) (by omega) j lw_5) (fun q40 hq40 => ?_)
                obtain ⟨jq40, xq40⟩ := hq40
                refine Ok.eq (fun c44 => ?_) (fun c44 => ?_)
                · refine Ok.bind (ok_X7_take (h0 := h0) n q40 q3.1 (by omega) jq40 ) (fun q43 hq43 => ?_)
                  obtain ⟨jq43, xq43⟩ := hq43
                  have f45 := rgT (l1)
                  refine Ok.bind (ok_X7_readUnit (h0 := h0) hS n q43.2 l1 (by omega) jq43 (by omega) (by omega) (by omega)) (fun q45 hq45 => ?_)
                  obtain ⟨jq45, xq45⟩ := hq45
                  have f46 := lit_1
                  have f47 := adT (l3) (1)
                  have f48 := rgT (l3 + 1)
                  exact ih q45 l1 q3.1 (l3 + 1) jq45  (by omega) (by omega) (by omega) (by omega) (by omega)
                · have f49 := lit_45
                  refine Ok.eq (fun c50 => ?_) (fun c50 => ?_)
                  · refine Ok.bind (ok_X7_take (h0 := h0) n q40 q3.1 (by omega) jq40 ) (fun q48 hq48 => ?_)
                    obtain ⟨jq48, xq48⟩ := hq48
                    have f51 := rgT (l1)
                    refine Ok.bind (ok_X7_readUnit (h0 := h0) hS n q48.2 l1 (by omega) jq48 (by omega) (by omega) (by omega)) (fun q50 hq50 => ?_)
                    obtain ⟨jq50, xq50⟩ := hq50
                    have f52 := lit_1
                    have f53 := adT (l3) (1)
                    have f54 := rgT (l3 + 1)
                    exact ih q50 l1 q3.1 (l3 + 1) jq50  (by omega) (by omega) (by omega) (by omega) (by omega)
                  · exact Ok.ret ⟨jq40, trivial⟩
              · refine Ok.bind (ok_X4_add (h0 := h0) n h 5 (-11) (by omega) j lw_5) (fun q28 hq28 => ?_)
                obtain ⟨jq28, xq28⟩ := hq28
                refine Ok.eq (fun c55 => ?_) (fun c55 => ?_)
                · refine Ok.bind (ok_X7_take (h0 := h0) n q28 q3.1 (by omega) jq28 ) (fun q31 hq31 => ?_)
                  obtain ⟨jq31, xq31⟩ := hq31
                  have f56 := rgT (l1)
                  refine Ok.bind (ok_X7_readUnit (h0 := h0) hS n q31.2 l1 (by omega) jq31 (by omega) (by omega) (by omega)) (fun q33 hq33 => ?_)
                  obtain ⟨jq33, xq33⟩ := hq33
                  have f57 := lit_1
                  have f58 := adT (l3) (1)
                  have f59 := rgT (l3 + 1)
                  exact ih q33 l1 q3.1 (l3 + 1) jq33  (by omega) (by omega) (by omega) (by omega) (by omega)
                · have f60 := lit_45
                  refine Ok.eq (fun c61 => ?_) (fun c61 => ?_)
                  · refine Ok.bind (ok_X7_take (h0 := h0) n q28 q3.1 (by omega) jq28 ) (fun q36 hq36 => ?_)
                    obtain ⟨jq36, xq36⟩ := hq36
                    have f62 := rgT (l1)
                    refine Ok.bind (ok_X7_readUnit (h0 := h0) hS n q36.2 l1 (by omega) jq36 (by omega) (by omega) (by omega)) (fun q38 hq38 => ?_)
                    obtain ⟨jq38, xq38⟩ := hq38
                    have f63 := lit_1
                    have f64 := adT (l3) (1)
                    have f65 := rgT (l3 + 1)
                    exact ih q38 l1 q3.1 (l3 + 1) jq38  (by omega) (by omega) (by omega) (by omega) (by omega)
                  · exact Ok.ret ⟨jq28, trivial⟩
      · exact Ok.ret ⟨j, trivial⟩
set_option maxRecDepth 100000 in
set_option maxHeartbeats 4000000 in
theorem ok_X7_readSum {h0 : Hp} {e : Nat} {S : Nat → Hp → Int32 → Option Hp} (hS : ∀ (n : Nat) (h : Hp) (x1 : Int32), 584115552256 ≤ n → J h0 h → 0 ≤ x1.toInt → x1.toInt ≤ 6 → 7 - x1.toInt ≤ e - 1 → Ok (S n h x1) (fun q => J h0 q ∧ True)) (n : Nat) (h : Hp) (x1 : Int32) (hn : 584115552256 ≤ n) (j : J h0 h) (p0 : 0 ≤ x1.toInt) (p1 : x1.toInt ≤ 6) (p2 : 7 - x1.toInt ≤ e) : Ok (F_X7_readSum S n h x1) (fun q => J h0 q ∧ True) := by
  unfold F_X7_readSum
  have f1 := rgT (x1)
  refine Ok.bind (ok_X7_readUnit (h0 := h0) hS n h x1 (by omega) j (by omega) (by omega) (by omega)) (fun q61 hq61 => ?_)
  obtain ⟨jq61, xq61⟩ := hq61
  have f2 := lit_0
  exact okW_X7_readSum_9 (h0 := h0) hS n q61 x1 0 0 jq61  (by omega) (by omega) (by omega) (by omega) (by omega)
theorem okL_X7_readSum {h0 : Hp} : ∀ (l : Nat) (n : Nat) (h : Hp) (x1 : Int32), 584115552256 ≤ n → J h0 h → 0 ≤ x1.toInt → x1.toInt ≤ 6 → 7 - x1.toInt ≤ l → Ok (L_X7_readSum l n h x1) (fun q => J h0 q ∧ True) := by
  intro l
  induction l with
  | zero => intro n h x1 hn j p0 p1 p2; exfalso; omega
  | succ l ih =>
    intro n h x1 hn j p0 p1 p2
    show Ok (F_X7_readSum (L_X7_readSum l) n h x1) _
    exact ok_X7_readSum (h0 := h0) (e := l + 1) (fun n h x1 hn j q0 q1 q2 => ih n h x1 hn j q0 q1 (by omega)) n h x1 (by omega) j p0 p1 (by omega)
theorem ok_X7_readSumT {h0 : Hp} (n : Nat) (h : Hp) (x1 : Int32) (hn : 584115552256 ≤ n) (j : J h0 h) (p0 : x1.toInt = 0) : Ok (F_X7_readSumT n h x1) (fun q => J h0 q ∧ True) := by
  unfold F_X7_readSumT
  exact okL_X7_readSum 9 n h x1 hn j (by omega) (by omega) (by omega)
set_option maxRecDepth 100000 in
set_option maxHeartbeats 4000000 in
theorem ok_X4_addLess {h0 : Hp} (n : Nat) (h : Hp) (a : Nat) (hn : 1 ≤ n) (j : J h0 h) (hs : IsLw a) : Ok (F_X4_addLess n h a) (fun q => J h0 q.2 ∧ True) := by
  unfold F_X4_addLess
  refine Ok.bind (ok_X4_add (h0 := h0) n h a (-14) (by omega) j hs) (fun q1 hq1 => ?_)
  obtain ⟨jq1, xq1⟩ := hq1
  refine Ok.bind (ok_X4_add (h0 := h0) n q1 a 0 (by omega) jq1 hs) (fun q3 hq3 => ?_)
  obtain ⟨jq3, xq3⟩ := hq3
  exact Ok.ret ⟨jq3, trivial⟩
set_option maxRecDepth 100000 in
set_option maxHeartbeats 4000000 in
theorem ok_X4_elseHere {h0 : Hp} (n : Nat) (h : Hp) (a : Nat) (x1 : Int32) (hn : 1 ≤ n) (j : J h0 h) (hs : IsLw a) : Ok (F_X4_elseHere n h a x1) (fun q => J h0 q ∧ True) := by
  unfold F_X4_elseHere
  have f1 := rgT (x1)
  have f2 := lit_0
  refine Ok.lt (fun c3 => ?_) (fun c3 => ?_)
  · exact Ok.ret ⟨j, trivial⟩
  · have f4 := lit_404
    refine Ok.le (fun c5 => ?_) (fun c5 => ?_)
    · exact Ok.ret ⟨j, trivial⟩
    · refine Ok.chk (ixT (by omega) (by omega)) (fun c6 => ?_)
      generalize eg7 : wrI h (a + 1) (Int32.toNatClampNeg x1) (hi h a 3) = g7
      have jg7 : J h0 g7 := JwI eg7 j (ncO_nc (lwO hs).2.1)
      exact Ok.ret ⟨jg7, trivial⟩
set_option maxRecDepth 100000 in
set_option maxHeartbeats 4000000 in
theorem okW_X7_readLaw_20 {h0 : Hp} : ∀ (n : Nat), (∀ (h : Hp) (l1 : Int32) (l2 : Int32), J h0 h → (584115552256 : Int) < n → (584115552256 : Int) + (6 - l2.toInt) < n → Ok (W_X7_readLaw n 20 h l1 l2) (fun q => J h0 q ∧ True)) := by
  intro n
  induction n with
  | zero => intro h l1 l2 j hB hM; exfalso; omega
  | succ n ih =>
    intro h l1 l2 j hB hM
    rw [u_X7_readLaw]
    refine Ok.pos rfl ?_
    have f1 := rgT (hi h 2 5)
    have f2 := lit_0
    refine Ok.eq (fun c3 => ?_) (fun c3 => ?_)
    · refine Ok.bind (ok_X7_kind (h0 := h0) n h  (by omega) j ) (fun q6 hq6 => ?_)
      obtain ⟨eq6, xq6⟩ := hq6
      rw [eq6]
      have f4 := rgT (q6.1)
      have f5 := lit_19
      refine Ok.eq (fun c6 => ?_) (fun c6 => ?_)
      · have f7 := lit_4
        have f8 := rgT (l2)
        refine Ok.lt (fun c9 => ?_) (fun c9 => ?_)
        · refine Ok.bind (ok_X7_readSumT (h0 := h0) n h 0 (by omega) j (by omega)) (fun q14 hq14 => ?_)
          obtain ⟨jq14, xq14⟩ := hq14
          refine Ok.bind (ok_X4_add (h0 := h0) n q14 5 (-15) (by omega) jq14 lw_5) (fun q16 hq16 => ?_)
          obtain ⟨jq16, xq16⟩ := hq16
          exact Ok.ret ⟨jq16, trivial⟩
        · refine Ok.lt (fun c10 => ?_) (fun c10 => ?_)
          · refine Ok.bind (ok_X7_take (h0 := h0) n h 19 (by omega) j ) (fun q19 hq19 => ?_)
            obtain ⟨jq19, xq19⟩ := hq19
            refine Ok.bind (ok_X7_readSumT (h0 := h0) n q19.2 0 (by omega) jq19 (by omega)) (fun q21 hq21 => ?_)
            obtain ⟨jq21, xq21⟩ := hq21
            refine Ok.bind (ok_X7_take (h0 := h0) n q21 60 (by omega) jq21 ) (fun q23 hq23 => ?_)
            obtain ⟨jq23, xq23⟩ := hq23
            refine Ok.bind (ok_X7_readSumT (h0 := h0) n q23.2 0 (by omega) jq23 (by omega)) (fun q25 hq25 => ?_)
            obtain ⟨jq25, xq25⟩ := hq25
            refine Ok.bind (ok_X7_take (h0 := h0) n q25 20 (by omega) jq25 ) (fun q27 hq27 => ?_)
            obtain ⟨jq27, xq27⟩ := hq27
            refine Ok.bind (ok_X4_addLess (h0 := h0) n q27.2 5 (by omega) jq27 lw_5) (fun q29 hq29 => ?_)
            obtain ⟨jq29, xq29⟩ := hq29
            refine Ok.bind (ok_X7_readSumT (h0 := h0) n q29.2 0 (by omega) jq29 (by omega)) (fun q31 hq31 => ?_)
            obtain ⟨jq31, xq31⟩ := hq31
            refine Ok.bind (ok_X7_take (h0 := h0) n q31 21 (by omega) jq31 ) (fun q33 hq33 => ?_)
            obtain ⟨jq33, xq33⟩ := hq33
            refine Ok.bind (ok_X4_add (h0 := h0) n q33.2 5 (-15) (by omega) jq33 lw_5) (fun q35 hq35 => ?_)
            obtain ⟨jq35, xq35⟩ := hq35
            refine Ok.bind (ok_X4_elseHere (h0 := h0) n q35 5 q29.1 (by omega) jq35 lw_5) (fun q37 hq37 => ?_)
            obtain ⟨jq37, xq37⟩ := hq37
            have f11 := lit_1
            have f12 := adT (l2) (1)
            have f13 := rgT (l2 + 1)
            exact ih q37 l1 (l2 + 1) jq37   (by omega) (by omega)
          · refine Ok.bind (ok_X7_stop (h0 := h0) n h 2 (by omega) j ) (fun q39 hq39 => ?_)
            obtain ⟨jq39, xq39⟩ := hq39
            refine Ok.bind (ok_X7_take (h0 := h0) n q39 19 (by omega) jq39 ) (fun q41 hq41 => ?_)
            obtain ⟨jq41, xq41⟩ := hq41
            refine Ok.bind (ok_X7_readSumT (h0 := h0) n q41.2 0 (by omega) jq41 (by omega)) (fun q43 hq43 => ?_)
            obtain ⟨jq43, xq43⟩ := hq43
            refine Ok.bind (ok_X7_take (h0 := h0) n q43 60 (by omega) jq43 ) (fun q45 hq45 => ?_)
            obtain ⟨jq45, xq45⟩ := hq45
            refine Ok.bind (ok_X7_readSumT (h0 := h0) n q45.2 0 (by omega) jq45 (by omega)) (fun q47 hq47 => ?_)
            obtain ⟨jq47, xq47⟩ := hq47
            refine Ok.bind (ok_X7_take (h0 := h0) n q47 20 (by omega) jq47 ) (fun q49 hq49 => ?_)
            obtain ⟨jq49, xq49⟩ := hq49
            refine Ok.bind (ok_X4_addLess (h0 := h0) n q49.2 5 (by omega) jq49 lw_5) (fun q51 hq51 => ?_)
            obtain ⟨jq51, xq51⟩ := hq51
            refine Ok.bind (ok_X7_readSumT (h0 := h0) n q51.2 0 (by omega) jq51 (by omega)) (fun q53 hq53 => ?_)
            obtain ⟨jq53, xq53⟩ := hq53
            refine Ok.bind (ok_X7_take (h0 := h0) n q53 21 (by omega) jq53 ) (fun q55 hq55 => ?_)
            obtain ⟨jq55, xq55⟩ := hq55
            refine Ok.bind (ok_X4_add (h0 := h0) n q55.2 5 (-15) (by omega) jq55 lw_5) (fun q57 hq57 => ?_)
            obtain ⟨jq57, xq57⟩ := hq57
            refine Ok.bind (ok_X4_elseHere (h0 := h0) n q57 5 q51.1 (by omega) jq57 lw_5) (fun q59 hq59 => ?_)
            obtain ⟨jq59, xq59⟩ := hq59
            have f14 := lit_1
            have f15 := adT (l2) (1)
            have f16 := rgT (l2 + 1)
            exact ih q59 l1 (l2 + 1) jq59   (by omega) (by omega)
      · refine Ok.bind (ok_X7_readSumT (h0 := h0) n h 0 (by omega) j (by omega)) (fun q9 hq9 => ?_)
        obtain ⟨jq9, xq9⟩ := hq9
        refine Ok.bind (ok_X4_add (h0 := h0) n q9 5 (-15) (by omega) jq9 lw_5) (fun q11 hq11 => ?_)
        obtain ⟨jq11, xq11⟩ := hq11
        exact Ok.ret ⟨jq11, trivial⟩
    · refine Ok.bind (ok_X7_readSumT (h0 := h0) n h 0 (by omega) j (by omega)) (fun q2 hq2 => ?_)
      obtain ⟨jq2, xq2⟩ := hq2
      refine Ok.bind (ok_X4_add (h0 := h0) n q2 5 (-15) (by omega) jq2 lw_5) (fun q4 hq4 => ?_)
      obtain ⟨jq4, xq4⟩ := hq4
      exact Ok.ret ⟨jq4, trivial⟩
set_option maxRecDepth 100000 in
set_option maxHeartbeats 4000000 in
theorem ok_X7_readLaw {h0 : Hp} (n : Nat) (h : Hp) (x1 : Int32) (hn : 601295421440 ≤ n) (j : J h0 h) : Ok (F_X7_readLaw n h x1) (fun q => J h0 q ∧ True) := by
  unfold F_X7_readLaw
  refine Ok.bind (ok_X7_take (h0 := h0) n h 61 (by omega) j ) (fun q61 hq61 => ?_)
  obtain ⟨jq61, xq61⟩ := hq61
  refine Ok.bind (ok_X4_begin (h0 := h0) n q61.2 5 x1 (by omega) jq61 lw_5) (fun q63 hq63 => ?_)
  obtain ⟨jq63, xq63⟩ := hq63
  have f1 := lit_0
  exact okW_X7_readLaw_20 (h0 := h0) n q63 x1 0 jq63   (by omega) (by omega)
set_option maxRecDepth 100000 in
set_option maxHeartbeats 4000000 in
theorem ok_X7_readTell {h0 : Hp} (n : Nat) (h : Hp) (x1 : Int32) (hn : 601295421440 ≤ n) (j : J h0 h) : Ok (F_X7_readTell n h x1) (fun q => J h0 q ∧ True) := by
  unfold F_X7_readTell
  have f1 := rgT (x1)
  have f2 := lit_9
  refine Ok.eq (fun c3 => ?_) (fun c3 => ?_)
  · refine Ok.bind (ok_X7_readLawn (h0 := h0) n h  (by omega) j ) (fun q2 hq2 => ?_)
    obtain ⟨jq2, xq2⟩ := hq2
    refine Ok.bind (ok_X7_take (h0 := h0) n q2 59 (by omega) jq2 ) (fun q4 hq4 => ?_)
    obtain ⟨jq4, xq4⟩ := hq4
    exact Ok.ret ⟨jq4, trivial⟩
  · have f4 := lit_10
    refine Ok.eq (fun c5 => ?_) (fun c5 => ?_)
    · refine Ok.bind (ok_X7_readTune (h0 := h0) n h  (by omega) j ) (fun q7 hq7 => ?_)
      obtain ⟨jq7, xq7⟩ := hq7
      refine Ok.bind (ok_X7_take (h0 := h0) n q7 59 (by omega) jq7 ) (fun q9 hq9 => ?_)
      obtain ⟨jq9, xq9⟩ := hq9
      exact Ok.ret ⟨jq9, trivial⟩
    · have f6 := lit_11
      refine Ok.eq (fun c7 => ?_) (fun c7 => ?_)
      · refine Ok.bind (ok_X7_readGoer (h0 := h0) n h  (by omega) j ) (fun q12 hq12 => ?_)
        obtain ⟨jq12, xq12⟩ := hq12
        refine Ok.bind (ok_X7_take (h0 := h0) n q12 59 (by omega) jq12 ) (fun q14 hq14 => ?_)
        obtain ⟨jq14, xq14⟩ := hq14
        exact Ok.ret ⟨jq14, trivial⟩
      · have f8 := lit_12
        refine Ok.eq (fun c9 => ?_) (fun c9 => ?_)
        · refine Ok.bind (ok_X7_readRope (h0 := h0) n h  (by omega) j ) (fun q17 hq17 => ?_)
          obtain ⟨jq17, xq17⟩ := hq17
          refine Ok.bind (ok_X7_take (h0 := h0) n q17 59 (by omega) jq17 ) (fun q19 hq19 => ?_)
          obtain ⟨jq19, xq19⟩ := hq19
          exact Ok.ret ⟨jq19, trivial⟩
        · have f10 := lit_13
          refine Ok.eq (fun c11 => ?_) (fun c11 => ?_)
          · refine Ok.lt (fun c12 => ?_) (fun c12 => ?_)
            · refine Ok.bind (ok_X7_stop (h0 := h0) n h 1 (by omega) j ) (fun q23 hq23 => ?_)
              obtain ⟨jq23, xq23⟩ := hq23
              exact Ok.ret ⟨jq23, trivial⟩
            · have f13 := lit_16
              refine Ok.le (fun c14 => ?_) (fun c14 => ?_)
              · refine Ok.bind (ok_X7_take (h0 := h0) n h x1 (by omega) j ) (fun q26 hq26 => ?_)
                obtain ⟨jq26, xq26⟩ := hq26
                refine Ok.bind (ok_X7_readLaw (h0 := h0) n q26.2 (x1 - 13) (by omega) jq26 ) (fun q28 hq28 => ?_)
                obtain ⟨jq28, xq28⟩ := hq28
                refine Ok.bind (ok_X7_take (h0 := h0) n q28 59 (by omega) jq28 ) (fun q30 hq30 => ?_)
                obtain ⟨jq30, xq30⟩ := hq30
                exact Ok.ret ⟨jq30, trivial⟩
              · refine Ok.bind (ok_X7_stop (h0 := h0) n h 1 (by omega) j ) (fun q32 hq32 => ?_)
                obtain ⟨jq32, xq32⟩ := hq32
                exact Ok.ret ⟨jq32, trivial⟩
          · have f15 := lit_14
            refine Ok.eq (fun c16 => ?_) (fun c16 => ?_)
            · refine Ok.lt (fun c17 => ?_) (fun c17 => ?_)
              · refine Ok.bind (ok_X7_stop (h0 := h0) n h 1 (by omega) j ) (fun q36 hq36 => ?_)
                obtain ⟨jq36, xq36⟩ := hq36
                exact Ok.ret ⟨jq36, trivial⟩
              · have f18 := lit_16
                refine Ok.le (fun c19 => ?_) (fun c19 => ?_)
                · refine Ok.bind (ok_X7_take (h0 := h0) n h x1 (by omega) j ) (fun q39 hq39 => ?_)
                  obtain ⟨jq39, xq39⟩ := hq39
                  refine Ok.bind (ok_X7_readLaw (h0 := h0) n q39.2 (x1 - 13) (by omega) jq39 ) (fun q41 hq41 => ?_)
                  obtain ⟨jq41, xq41⟩ := hq41
                  refine Ok.bind (ok_X7_take (h0 := h0) n q41 59 (by omega) jq41 ) (fun q43 hq43 => ?_)
                  obtain ⟨jq43, xq43⟩ := hq43
                  exact Ok.ret ⟨jq43, trivial⟩
                · refine Ok.bind (ok_X7_stop (h0 := h0) n h 1 (by omega) j ) (fun q45 hq45 => ?_)
                  obtain ⟨jq45, xq45⟩ := hq45
                  exact Ok.ret ⟨jq45, trivial⟩
            · have f20 := lit_15
              refine Ok.eq (fun c21 => ?_) (fun c21 => ?_)
              · refine Ok.lt (fun c22 => ?_) (fun c22 => ?_)
                · refine Ok.bind (ok_X7_stop (h0 := h0) n h 1 (by omega) j ) (fun q49 hq49 => ?_)
                  obtain ⟨jq49, xq49⟩ := hq49
                  exact Ok.ret ⟨jq49, trivial⟩
                · have f23 := lit_16
                  refine Ok.le (fun c24 => ?_) (fun c24 => ?_)
                  · refine Ok.bind (ok_X7_take (h0 := h0) n h x1 (by omega) j ) (fun q52 hq52 => ?_)
                    obtain ⟨jq52, xq52⟩ := hq52
                    refine Ok.bind (ok_X7_readLaw (h0 := h0) n q52.2 (x1 - 13) (by omega) jq52 ) (fun q54 hq54 => ?_)
                    obtain ⟨jq54, xq54⟩ := hq54
                    refine Ok.bind (ok_X7_take (h0 := h0) n q54 59 (by omega) jq54 ) (fun q56 hq56 => ?_)
                    obtain ⟨jq56, xq56⟩ := hq56
                    exact Ok.ret ⟨jq56, trivial⟩
                  · refine Ok.bind (ok_X7_stop (h0 := h0) n h 1 (by omega) j ) (fun q58 hq58 => ?_)
                    obtain ⟨jq58, xq58⟩ := hq58
                    exact Ok.ret ⟨jq58, trivial⟩
              · have f25 := lit_16
                refine Ok.eq (fun c26 => ?_) (fun c26 => ?_)
                · refine Ok.lt (fun c27 => ?_) (fun c27 => ?_)
                  · refine Ok.bind (ok_X7_stop (h0 := h0) n h 1 (by omega) j ) (fun q62 hq62 => ?_)
                    obtain ⟨jq62, xq62⟩ := hq62
                    exact Ok.ret ⟨jq62, trivial⟩
                  · refine Ok.le (fun c28 => ?_) (fun c28 => ?_)
                    · refine Ok.bind (ok_X7_take (h0 := h0) n h x1 (by omega) j ) (fun q65 hq65 => ?_)
                      obtain ⟨jq65, xq65⟩ := hq65
                      refine Ok.bind (ok_X7_readLaw (h0 := h0) n q65.2 (x1 - 13) (by omega) jq65 ) (fun q67 hq67 => ?_)
                      obtain ⟨jq67, xq67⟩ := hq67
                      refine Ok.bind (ok_X7_take (h0 := h0) n q67 59 (by omega) jq67 ) (fun q69 hq69 => ?_)
                      obtain ⟨jq69, xq69⟩ := hq69
                      exact Ok.ret ⟨jq69, trivial⟩
                    · refine Ok.bind (ok_X7_stop (h0 := h0) n h 1 (by omega) j ) (fun q71 hq71 => ?_)
                      obtain ⟨jq71, xq71⟩ := hq71
                      exact Ok.ret ⟨jq71, trivial⟩
                · have f29 := lit_17
                  refine Ok.eq (fun c30 => ?_) (fun c30 => ?_)
                  · refine Ok.bind (ok_X7_take (h0 := h0) n h x1 (by omega) j ) (fun q74 hq74 => ?_)
                    obtain ⟨jq74, xq74⟩ := hq74
                    refine Ok.bind (ok_X7_takeNumber (h0 := h0) n q74.2 0 100 (by omega) jq74 ) (fun q76 hq76 => ?_)
                    obtain ⟨jq76, xq76⟩ := hq76
                    generalize eg31 : wrI q76.2 3 3 q76.1 = g31
                    have jg31 : J h0 g31 := JwI eg31 jq76 (by decide)
                    refine Ok.bind (ok_X7_take (h0 := h0) n g31 59 (by omega) jg31 ) (fun q78 hq78 => ?_)
                    obtain ⟨jq78, xq78⟩ := hq78
                    exact Ok.ret ⟨jq78, trivial⟩
                  · have f32 := lit_18
                    refine Ok.eq (fun c33 => ?_) (fun c33 => ?_)
                    · refine Ok.bind (ok_X7_take (h0 := h0) n h x1 (by omega) j ) (fun q81 hq81 => ?_)
                      obtain ⟨jq81, xq81⟩ := hq81
                      refine Ok.bind (ok_X7_takeNumber (h0 := h0) n q81.2 0 9999 (by omega) jq81 ) (fun q83 hq83 => ?_)
                      obtain ⟨jq83, xq83⟩ := hq83
                      generalize eg34 : wrI q83.2 3 4 q83.1 = g34
                      have jg34 : J h0 g34 := JwI eg34 jq83 (by decide)
                      refine Ok.bind (ok_X7_take (h0 := h0) n g34 59 (by omega) jg34 ) (fun q85 hq85 => ?_)
                      obtain ⟨jq85, xq85⟩ := hq85
                      exact Ok.ret ⟨jq85, trivial⟩
                    · refine Ok.lt (fun c35 => ?_) (fun c35 => ?_)
                      · refine Ok.bind (ok_X7_stop (h0 := h0) n h 1 (by omega) j ) (fun q88 hq88 => ?_)
                        obtain ⟨jq88, xq88⟩ := hq88
                        exact Ok.ret ⟨jq88, trivial⟩
                      · refine Ok.le (fun c36 => ?_) (fun c36 => ?_)
                        · refine Ok.bind (ok_X7_take (h0 := h0) n h x1 (by omega) j ) (fun q91 hq91 => ?_)
                          obtain ⟨jq91, xq91⟩ := hq91
                          refine Ok.bind (ok_X7_readLaw (h0 := h0) n q91.2 (x1 - 13) (by omega) jq91 ) (fun q93 hq93 => ?_)
                          obtain ⟨jq93, xq93⟩ := hq93
                          refine Ok.bind (ok_X7_take (h0 := h0) n q93 59 (by omega) jq93 ) (fun q95 hq95 => ?_)
                          obtain ⟨jq95, xq95⟩ := hq95
                          exact Ok.ret ⟨jq95, trivial⟩
                        · refine Ok.bind (ok_X7_stop (h0 := h0) n h 1 (by omega) j ) (fun q97 hq97 => ?_)
                          obtain ⟨jq97, xq97⟩ := hq97
                          exact Ok.ret ⟨jq97, trivial⟩
set_option maxRecDepth 100000 in
set_option maxHeartbeats 4000000 in
theorem okW_X7_readText_14 {h0 : Hp} : ∀ (n : Nat), (∀ (h : Hp) (l1 : Int32) (l2 : Int32), J h0 h → (601295421440 : Int) < n → (601295421440 : Int) + (401 - l2.toInt) < n → Ok (W_X7_readText n 14 h l1 l2) (fun q => J h0 q.2 ∧ True)) := by
  intro n
  induction n with
  | zero => intro h l1 l2 j hB hM; exfalso; omega
  | succ n ih =>
    intro h l1 l2 j hB hM
    rw [u_X7_readText]
    refine Ok.pos rfl ?_
    have f1 := lit_400
    have f2 := rgT (l2)
    refine Ok.lt (fun c3 => ?_) (fun c3 => ?_)
    · have f4 := rgT (hi h 2 5)
      have f5 := lit_0
      refine Ok.eq (fun c6 => ?_) (fun c6 => ?_)
      · refine Ok.bind (ok_X7_layOut (h0 := h0) n h l1 (by omega) j ) (fun q3 hq3 => ?_)
        obtain ⟨jq3, xq3⟩ := hq3
        generalize eg7 : wrI q3 2 2 (hi q3 2 7) = g7
        have jg7 : J h0 g7 := JwI eg7 jq3 (by decide)
        exact Ok.ret ⟨jg7, trivial⟩
      · refine Ok.bind (ok_X9_placeOf (h0 := h0) n h (hi h 2 4) (by omega) j ) (fun q5 hq5 => ?_)
        obtain ⟨eq5, xq5⟩ := hq5
        rw [eq5]
        generalize eg8 : wrI h 2 2 q5.1 = g8
        have jg8 : J h0 g8 := JwI eg8 j (by decide)
        exact Ok.ret ⟨jg8, trivial⟩
    · have f9 := rgT (hi h 2 5)
      have f10 := lit_0
      refine Ok.eq (fun c11 => ?_) (fun c11 => ?_)
      · refine Ok.bind (ok_X7_kind (h0 := h0) n h  (by omega) j ) (fun q13 hq13 => ?_)
        obtain ⟨eq13, xq13⟩ := hq13
        rw [eq13]
        have f12 := rgT (q13.1)
        have f13 := lit_32
        refine Ok.eq (fun c14 => ?_) (fun c14 => ?_)
        · refine Ok.eq (fun c15 => ?_) (fun c15 => ?_)
          · refine Ok.bind (ok_X7_layOut (h0 := h0) n h l1 (by omega) j ) (fun q17 hq17 => ?_)
            obtain ⟨jq17, xq17⟩ := hq17
            generalize eg16 : wrI q17 2 2 (hi q17 2 7) = g16
            have jg16 : J h0 g16 := JwI eg16 jq17 (by decide)
            exact Ok.ret ⟨jg16, trivial⟩
          · refine Ok.bind (ok_X9_placeOf (h0 := h0) n h (hi h 2 4) (by omega) j ) (fun q19 hq19 => ?_)
            obtain ⟨eq19, xq19⟩ := hq19
            rw [eq19]
            generalize eg17 : wrI h 2 2 q19.1 = g17
            have jg17 : J h0 g17 := JwI eg17 j (by decide)
            exact Ok.ret ⟨jg17, trivial⟩
        · refine Ok.bind (ok_X7_kind (h0 := h0) n h  (by omega) j ) (fun q21 hq21 => ?_)
          obtain ⟨eq21, xq21⟩ := hq21
          rw [eq21]
          refine Ok.bind (ok_X7_readTell (h0 := h0) n h q21.1 (by omega) j ) (fun q23 hq23 => ?_)
          obtain ⟨jq23, xq23⟩ := hq23
          have f18 := lit_1
          have f19 := adT (l2) (1)
          have f20 := rgT (l2 + 1)
          exact ih q23 l1 (l2 + 1) jq23   (by omega) (by omega)
      · refine Ok.eq (fun c21 => ?_) (fun c21 => ?_)
        · refine Ok.bind (ok_X7_layOut (h0 := h0) n h l1 (by omega) j ) (fun q9 hq9 => ?_)
          obtain ⟨jq9, xq9⟩ := hq9
          generalize eg22 : wrI q9 2 2 (hi q9 2 7) = g22
          have jg22 : J h0 g22 := JwI eg22 jq9 (by decide)
          exact Ok.ret ⟨jg22, trivial⟩
        · refine Ok.bind (ok_X9_placeOf (h0 := h0) n h (hi h 2 4) (by omega) j ) (fun q11 hq11 => ?_)
          obtain ⟨eq11, xq11⟩ := hq11
          rw [eq11]
          generalize eg23 : wrI h 2 2 q11.1 = g23
          have jg23 : J h0 g23 := JwI eg23 j (by decide)
          exact Ok.ret ⟨jg23, trivial⟩
set_option maxRecDepth 100000 in
set_option maxHeartbeats 4000000 in
theorem ok_X7_readText {h0 : Hp} (n : Nat) (h : Hp) (x1 : Int32) (hn : 618475290624 ≤ n) (j : J h0 h) : Ok (F_X7_readText n h x1) (fun q => J h0 q.2 ∧ True) := by
  unfold F_X7_readText
  refine Ok.bind (ok_X7_clear (h0 := h0) n h  (by omega) j ) (fun q25 hq25 => ?_)
  obtain ⟨jq25, xq25⟩ := hq25
  refine Ok.bind (ok_X9_scan (h0 := h0) n q25 x1 (by omega) jq25 ) (fun q27 hq27 => ?_)
  obtain ⟨jq27, xq27⟩ := hq27
  have f1 := lit_0
  exact okW_X7_readText_14 (h0 := h0) n q27 x1 0 jq27   (by omega) (by omega)
set_option maxRecDepth 100000 in
set_option maxHeartbeats 4000000 in
theorem ok_X3_become {h0 : Hp} (n : Nat) (h : Hp) (a : Nat) (b1 : Nat) (hn : 1 ≤ n) (j : J h0 h) (hs : IsFd a) (ht1 : IsFd b1) : Ok (F_X3_become n h a b1) (fun q => J h0 q ∧ True) := by
  unfold F_X3_become
  generalize eg1 : wrI h a 0 (hi h b1 0) = g1
  have jg1 : J h0 g1 := JwI eg1 j (ncO_nc (fdO hs))
  generalize eg2 : wrI g1 a 1 (hi g1 b1 1) = g2
  have jg2 : J h0 g2 := JwI eg2 jg1 (ncO_nc (fdO hs))
  generalize eg3 : wrI g2 a 2 (hi g2 b1 2) = g3
  have jg3 : J h0 g3 := JwI eg3 jg2 (ncO_nc (fdO hs))
  generalize eg4 : wrI g3 a 3 (hi g3 b1 3) = g4
  have jg4 : J h0 g4 := JwI eg4 jg3 (ncO_nc (fdO hs))
  exact Ok.ret ⟨jg4, trivial⟩
set_option maxRecDepth 100000 in
set_option maxHeartbeats 4000000 in
theorem ok_X4_become {h0 : Hp} (n : Nat) (h : Hp) (a : Nat) (b1 : Nat) (hn : 1 ≤ n) (j : J h0 h) (hs : IsLw a) (ht1 : IsLw b1) : Ok (F_X4_become n h a b1) (fun q => J h0 q ∧ True) := by
  unfold F_X4_become
  generalize eg1 : wrI h a 3 (hi h b1 3) = g1
  have f2 := cR b1 3 0 404 (lwC ht1) j
  have f3 := rgT (hi h b1 3)
  have jg1 : J h0 g1 := JwC 0 404 eg1 j (lwC hs) ⟨by omega, by omega⟩
  generalize eg4 : wrA g1 (a + 1) (cpF g1 (b1 + 1) (a + 1) 404) = g4
  have jg4 : J h0 g4 := JwA eg4 jg1 (lwO hs).2.1
  generalize eg5 : wrA g4 (a + 2) (cpF g4 (b1 + 2) (a + 2) 4) = g5
  have jg5 : J h0 g5 := JwA eg5 jg4 (lwO hs).2.2.1
  exact Ok.ret ⟨jg5, trivial⟩
set_option maxRecDepth 100000 in
set_option maxHeartbeats 4000000 in
theorem ok_X0_become {h0 : Hp} (n : Nat) (h : Hp) (a : Nat) (b1 : Nat) (hn : 1 ≤ n) (j : J h0 h) (hs : IsBd a) (ht1 : IsBd b1) : Ok (F_X0_become n h a b1) (fun q => J h0 q ∧ True) := by
  unfold F_X0_become
  refine Ok.bind (ok_X3_become (h0 := h0) n h (a + 1) (b1 + 1) (by omega) j hs.2.1 ht1.2.1) (fun q1 hq1 => ?_)
  obtain ⟨jq1, xq1⟩ := hq1
  refine Ok.bind (ok_X4_become (h0 := h0) n q1 (a + 2) (b1 + 2) (by omega) jq1 hs.2.2.1 ht1.2.2.1) (fun q3 hq3 => ?_)
  obtain ⟨jq3, xq3⟩ := hq3
  generalize eg1 : wrI q3 a 2 (hi q3 b1 2) = g1
  have f2 := cR b1 2 0 5 (bdC ht1) jq3
  have f3 := rgT (hi q3 b1 2)
  have jg1 : J h0 g1 := JwC 0 5 eg1 jq3 (bdC hs) ⟨by omega, by omega⟩
  generalize eg4 : wrI g1 a 3 (hi g1 b1 3) = g4
  have jg4 : J h0 g4 := JwI eg4 jg1 (bdN 3 hs (by decide))
  generalize eg5 : wrI g4 a 4 (hi g4 b1 4) = g5
  have jg5 : J h0 g5 := JwI eg5 jg4 (bdN 4 hs (by decide))
  exact Ok.ret ⟨jg5, trivial⟩
set_option maxRecDepth 100000 in
set_option maxHeartbeats 4000000 in
theorem ok_X11_read {h0 : Hp} (n : Nat) (h : Hp) (hn : 618475290624 ≤ n) (j : J h0 h) : Ok (F_X11_read n h) (fun q => J h0 q.2 ∧ True) := by
  unfold F_X11_read
  refine Ok.bind (ok_X7_readText (h0 := h0) n h (hi h 0 1) (by omega) j ) (fun q1 hq1 => ?_)
  obtain ⟨jq1, xq1⟩ := hq1
  have f1 := rgT (q1.1)
  have f2 := lit_0
  refine Ok.eq (fun c3 => ?_) (fun c3 => ?_)
  · refine Ok.eq (fun c4 => ?_) (fun c4 => ?_)
    · generalize eg5 : wrI q1.2 0 1 0 = g5
      have jg5 : J h0 g5 := JwC 0 2000 eg5 jq1 (by decide) ⟨by omega, by omega⟩
      generalize eg6 : wrI g5 0 2 (-1) = g6
      have jg6 : J h0 g6 := JwI eg6 jg5 (by decide)
      refine Ok.bind (ok_X0_become (h0 := h0) n g6 23 3 (by omega) jg6 bd_23 bd_3) (fun q14 hq14 => ?_)
      obtain ⟨jq14, xq14⟩ := hq14
      refine Ok.bind (ok_X8_become (h0 := h0) n q14 30 10 (by omega) jq14 sc_30 sc_10) (fun q16 hq16 => ?_)
      obtain ⟨jq16, xq16⟩ := hq16
      refine Ok.bind (ok_X6_clear (h0 := h0) n q16  (by omega) jq16 ) (fun q18 hq18 => ?_)
      obtain ⟨jq18, xq18⟩ := hq18
      refine Ok.bind (ok_X2_clear (h0 := h0) n q18  (by omega) jq18 ) (fun q20 hq20 => ?_)
      obtain ⟨jq20, xq20⟩ := hq20
      generalize eg7 : wrI q20 0 10 0 = g7
      have jg7 : J h0 g7 := JwI eg7 jq20 (by decide)
      exact Ok.ret ⟨jg7, trivial⟩
    · generalize eg8 : wrI q1.2 0 1 0 = g8
      have jg8 : J h0 g8 := JwC 0 2000 eg8 jq1 (by decide) ⟨by omega, by omega⟩
      generalize eg9 : wrI g8 0 2 (-1) = g9
      have jg9 : J h0 g9 := JwI eg9 jg8 (by decide)
      exact Ok.ret ⟨jg9, trivial⟩
  · refine Ok.eq (fun c10 => ?_) (fun c10 => ?_)
    · generalize eg11 : wrI q1.2 0 1 0 = g11
      have jg11 : J h0 g11 := JwC 0 2000 eg11 jq1 (by decide) ⟨by omega, by omega⟩
      generalize eg12 : wrI g11 0 2 (hi g11 2 2) = g12
      have jg12 : J h0 g12 := JwI eg12 jg11 (by decide)
      refine Ok.bind (ok_X0_become (h0 := h0) n g12 23 3 (by omega) jg12 bd_23 bd_3) (fun q5 hq5 => ?_)
      obtain ⟨jq5, xq5⟩ := hq5
      refine Ok.bind (ok_X8_become (h0 := h0) n q5 30 10 (by omega) jq5 sc_30 sc_10) (fun q7 hq7 => ?_)
      obtain ⟨jq7, xq7⟩ := hq7
      refine Ok.bind (ok_X6_clear (h0 := h0) n q7  (by omega) jq7 ) (fun q9 hq9 => ?_)
      obtain ⟨jq9, xq9⟩ := hq9
      refine Ok.bind (ok_X2_clear (h0 := h0) n q9  (by omega) jq9 ) (fun q11 hq11 => ?_)
      obtain ⟨jq11, xq11⟩ := hq11
      generalize eg13 : wrI q11 0 10 0 = g13
      have jg13 : J h0 g13 := JwI eg13 jq11 (by decide)
      exact Ok.ret ⟨jg13, trivial⟩
    · generalize eg14 : wrI q1.2 0 1 0 = g14
      have jg14 : J h0 g14 := JwC 0 2000 eg14 jq1 (by decide) ⟨by omega, by omega⟩
      generalize eg15 : wrI g14 0 2 (hi g14 2 2) = g15
      have jg15 : J h0 g15 := JwI eg15 jg14 (by decide)
      exact Ok.ret ⟨jg15, trivial⟩
