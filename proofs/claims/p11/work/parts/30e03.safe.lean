/-! the class comes to its end, 4 -/
set_option maxRecDepth 100000 in
set_option maxHeartbeats 4000000 in
theorem sf_X7_layOut {h0 : Hp} (n : Nat) (h : Hp) (x1 : Int32) (hn : 34359738369 ≤ n) (j : J h0 h) : Ok (F_X7_layOut n h x1) (fun q => J h0 q ∧ True) := by
  unfold F_X7_layOut
  have f1 := lit_0
  exact sfW_X7_layOut_2 (h0 := h0) n h x1 0 j  (by omega) (by omega) (by omega)
set_option maxRecDepth 100000 in
set_option maxHeartbeats 4000000 in
theorem sf_X9_placeOf {h0 : Hp} (n : Nat) (h : Hp) (x1 : Int32) (hn : 1 ≤ n) (j : J h0 h) : Ok (F_X9_placeOf n h x1) (fun q => q.2 = h ∧ True) := by
  unfold F_X9_placeOf
  have f1 := rgT (x1)
  have f2 := lit_0
  refine Ok.lt (fun c3 => ?_) (fun c3 => ?_)
  · exact Ok.ret ⟨rfl, trivial⟩
  · have f4 := cR 18 5 0 401 (by decide) j
    have f5 := rgT (hi h 18 5)
    refine Ok.le (fun c6 => ?_) (fun c6 => ?_)
    · exact Ok.ret ⟨rfl, trivial⟩
    · refine Ok.chk (ixT (by omega) (by omega)) (fun c7 => ?_)
      exact Ok.ret ⟨rfl, trivial⟩
set_option maxRecDepth 100000 in
set_option maxHeartbeats 4000000 in
theorem sf_X9_kindOf {h0 : Hp} (n : Nat) (h : Hp) (x1 : Int32) (hn : 1 ≤ n) (j : J h0 h) : Ok (F_X9_kindOf n h x1) (fun q => q.2 = h ∧ True) := by
  unfold F_X9_kindOf
  have f1 := rgT (x1)
  have f2 := lit_0
  refine Ok.lt (fun c3 => ?_) (fun c3 => ?_)
  · exact Ok.ret ⟨rfl, trivial⟩
  · have f4 := cR 18 5 0 401 (by decide) j
    have f5 := rgT (hi h 18 5)
    refine Ok.le (fun c6 => ?_) (fun c6 => ?_)
    · exact Ok.ret ⟨rfl, trivial⟩
    · refine Ok.chk (ixT (by omega) (by omega)) (fun c7 => ?_)
      exact Ok.ret ⟨rfl, trivial⟩
set_option maxRecDepth 100000 in
set_option maxHeartbeats 4000000 in
theorem sf_X7_kind {h0 : Hp} (n : Nat) (h : Hp) (hn : 1 ≤ n) (j : J h0 h) : Ok (F_X7_kind n h) (fun q => q.2 = h ∧ True) := by
  unfold F_X7_kind
  refine Ok.bind (sf_X9_kindOf (h0 := h0) n h (hi h 2 4) (by omega) j ) (fun q1 hq1 => ?_)
  obtain ⟨eq1, xq1⟩ := hq1
  rw [eq1]
  exact Ok.ret ⟨rfl, trivial⟩
set_option maxRecDepth 100000 in
set_option maxHeartbeats 4000000 in
theorem sf_X7_stop {h0 : Hp} (n : Nat) (h : Hp) (x1 : Int32) (hn : 1 ≤ n) (j : J h0 h) : Ok (F_X7_stop n h x1) (fun q => J h0 q ∧ ((hi q 3 2).toInt = (hi h 3 2).toInt ∧ (x1.toInt ≠ 0 → (hi q 2 5).toInt ≠ 0))) := by
  unfold F_X7_stop
  have f1 := rgT (hi h 2 5)
  have f2 := lit_0
  refine Ok.eq (fun c3 => ?_) (fun c3 => ?_)
  · generalize eg4 : wrI h 2 5 x1 = g4
    have jg4 : J h0 g4 := JwI eg4 j (by decide)
    have f5 := congrArg Int32.toInt (hiA eg4 3 2 (by decide))
    have f6 := cR 3 2 0 5 (by decide) j
    have f7 := congrArg Int32.toInt (hiE eg4)
    have f8 := rgT (x1)
    refine Ok.ret ⟨jg4, ?_⟩
    show ((hi g4 3 2).toInt = (hi h 3 2).toInt ∧ (x1.toInt ≠ 0 → (hi g4 2 5).toInt ≠ 0))
    omega
  · have f9 := cR 3 2 0 5 (by decide) j
    refine Ok.ret ⟨j, ?_⟩
    show ((hi h 3 2).toInt = (hi h 3 2).toInt ∧ (x1.toInt ≠ 0 → (hi h 2 5).toInt ≠ 0))
    omega
set_option maxRecDepth 100000 in
set_option maxHeartbeats 4000000 in
theorem sf_X7_take {h0 : Hp} (n : Nat) (h : Hp) (x1 : Int32) (hn : 1 ≤ n) (j : J h0 h) : Ok (F_X7_take n h x1) (fun q => J h0 q.2 ∧ ((hi q.2 3 2).toInt = (hi h 3 2).toInt ∧ ((hi h 2 5).toInt ≠ 0 → q.1.toInt = 0))) := by
  unfold F_X7_take
  refine Ok.bind (sf_X9_kindOf (h0 := h0) n h (hi h 2 4) (by omega) j ) (fun q1 hq1 => ?_)
  obtain ⟨eq1, xq1⟩ := hq1
  rw [eq1]
  have f1 := rgT (q1.1)
  have f2 := rgT (x1)
  refine Ok.eq (fun c3 => ?_) (fun c3 => ?_)
  · have f4 := rgT (hi h 2 4)
    have f5 := lit_400
    refine Ok.lt (fun c6 => ?_) (fun c6 => ?_)
    · have f7 := rgT (hi h 2 5)
      have f8 := lit_0
      refine Ok.eq (fun c9 => ?_) (fun c9 => ?_)
      · generalize eg10 : wrI h 2 4 ((hi h 2 4) + 1) = g10
        have jg10 : J h0 g10 := JwI eg10 j (by decide)
        have f11 := congrArg Int32.toInt (hiK eg10 2 5 (by decide))
        have f12 := rgT (hi g10 2 5)
        refine Ok.eq (fun c13 => ?_) (fun c13 => ?_)
        · have f14 := lit_1
          have f15 := congrArg Int32.toInt (hiA eg10 3 2 (by decide))
          have f16 := cR 3 2 0 5 (by decide) j
          refine Ok.ret ⟨jg10, ?_⟩
          show ((hi g10 3 2).toInt = (hi h 3 2).toInt ∧ ((hi h 2 5).toInt ≠ 0 → ((1) : Int32).toInt = 0))
          omega
        · have f17 := congrArg Int32.toInt (hiA eg10 3 2 (by decide))
          have f18 := cR 3 2 0 5 (by decide) j
          refine Ok.ret ⟨jg10, ?_⟩
          show ((hi g10 3 2).toInt = (hi h 3 2).toInt ∧ ((hi h 2 5).toInt ≠ 0 → ((0) : Int32).toInt = 0))
          omega
      · refine Ok.eq (fun c19 => ?_) (fun c19 => ?_)
        · have f20 := lit_1
          have f21 := cR 3 2 0 5 (by decide) j
          refine Ok.ret ⟨j, ?_⟩
          show ((hi h 3 2).toInt = (hi h 3 2).toInt ∧ ((hi h 2 5).toInt ≠ 0 → ((1) : Int32).toInt = 0))
          omega
        · have f22 := cR 3 2 0 5 (by decide) j
          refine Ok.ret ⟨j, ?_⟩
          show ((hi h 3 2).toInt = (hi h 3 2).toInt ∧ ((hi h 2 5).toInt ≠ 0 → ((0) : Int32).toInt = 0))
          omega
    · have f23 := lit_2
      have f24 := cR 3 2 0 5 (by decide) j
      refine Ok.bind (sf_X7_stop (h0 := h0) n h 2 (by omega) j ) (fun q8 hq8 => ?_)
      obtain ⟨jq8, xq8⟩ := hq8
      have f25 := rgT (hi q8 2 5)
      have f26 := lit_0
      refine Ok.eq (fun c27 => ?_) (fun c27 => ?_)
      · generalize eg28 : wrI q8 2 4 ((hi q8 2 4) + 1) = g28
        have jg28 : J h0 g28 := JwI eg28 jq8 (by decide)
        have f29 := congrArg Int32.toInt (hiK eg28 2 5 (by decide))
        have f30 := rgT (hi g28 2 5)
        refine Ok.eq (fun c31 => ?_) (fun c31 => ?_)
        · have f32 := lit_1
          have f33 := congrArg Int32.toInt (hiA eg28 3 2 (by decide))
          have f34 := cR 3 2 0 5 (by decide) jq8
          refine Ok.ret ⟨jg28, ?_⟩
          show ((hi g28 3 2).toInt = (hi h 3 2).toInt ∧ ((hi h 2 5).toInt ≠ 0 → ((1) : Int32).toInt = 0))
          omega
        · have f35 := congrArg Int32.toInt (hiA eg28 3 2 (by decide))
          have f36 := cR 3 2 0 5 (by decide) jq8
          refine Ok.ret ⟨jg28, ?_⟩
          show ((hi g28 3 2).toInt = (hi h 3 2).toInt ∧ ((hi h 2 5).toInt ≠ 0 → ((0) : Int32).toInt = 0))
          omega
      · refine Ok.eq (fun c37 => ?_) (fun c37 => ?_)
        · have f38 := lit_1
          have f39 := cR 3 2 0 5 (by decide) jq8
          refine Ok.ret ⟨jq8, ?_⟩
          show ((hi q8 3 2).toInt = (hi h 3 2).toInt ∧ ((hi h 2 5).toInt ≠ 0 → ((1) : Int32).toInt = 0))
          omega
        · have f40 := cR 3 2 0 5 (by decide) jq8
          refine Ok.ret ⟨jq8, ?_⟩
          show ((hi q8 3 2).toInt = (hi h 3 2).toInt ∧ ((hi h 2 5).toInt ≠ 0 → ((0) : Int32).toInt = 0))
          omega
  · have f41 := lit_1
    have f42 := cR 3 2 0 5 (by decide) j
    refine Ok.bind (sf_X7_stop (h0 := h0) n h 1 (by omega) j ) (fun q13 hq13 => ?_)
    obtain ⟨jq13, xq13⟩ := hq13
    have f43 := rgT (hi q13 2 5)
    have f44 := lit_0
    refine Ok.eq (fun c45 => ?_) (fun c45 => ?_)
    · generalize eg46 : wrI q13 2 4 ((hi q13 2 4) + 1) = g46
      have jg46 : J h0 g46 := JwI eg46 jq13 (by decide)
      have f47 := congrArg Int32.toInt (hiK eg46 2 5 (by decide))
      have f48 := rgT (hi g46 2 5)
      refine Ok.eq (fun c49 => ?_) (fun c49 => ?_)
      · have f50 := congrArg Int32.toInt (hiA eg46 3 2 (by decide))
        have f51 := cR 3 2 0 5 (by decide) jq13
        refine Ok.ret ⟨jg46, ?_⟩
        show ((hi g46 3 2).toInt = (hi h 3 2).toInt ∧ ((hi h 2 5).toInt ≠ 0 → ((1) : Int32).toInt = 0))
        omega
      · have f52 := congrArg Int32.toInt (hiA eg46 3 2 (by decide))
        have f53 := cR 3 2 0 5 (by decide) jq13
        refine Ok.ret ⟨jg46, ?_⟩
        show ((hi g46 3 2).toInt = (hi h 3 2).toInt ∧ ((hi h 2 5).toInt ≠ 0 → ((0) : Int32).toInt = 0))
        omega
    · refine Ok.eq (fun c54 => ?_) (fun c54 => ?_)
      · have f55 := cR 3 2 0 5 (by decide) jq13
        refine Ok.ret ⟨jq13, ?_⟩
        show ((hi q13 3 2).toInt = (hi h 3 2).toInt ∧ ((hi h 2 5).toInt ≠ 0 → ((1) : Int32).toInt = 0))
        omega
      · have f56 := cR 3 2 0 5 (by decide) jq13
        refine Ok.ret ⟨jq13, ?_⟩
        show ((hi q13 3 2).toInt = (hi h 3 2).toInt ∧ ((hi h 2 5).toInt ≠ 0 → ((0) : Int32).toInt = 0))
        omega
set_option maxRecDepth 100000 in
set_option maxHeartbeats 4000000 in
theorem sf_X9_valueOf {h0 : Hp} (n : Nat) (h : Hp) (x1 : Int32) (hn : 1 ≤ n) (j : J h0 h) : Ok (F_X9_valueOf n h x1) (fun q => q.2 = h ∧ True) := by
  unfold F_X9_valueOf
  have f1 := rgT (x1)
  have f2 := lit_0
  refine Ok.lt (fun c3 => ?_) (fun c3 => ?_)
  · exact Ok.ret ⟨rfl, trivial⟩
  · have f4 := cR 18 5 0 401 (by decide) j
    have f5 := rgT (hi h 18 5)
    refine Ok.le (fun c6 => ?_) (fun c6 => ?_)
    · exact Ok.ret ⟨rfl, trivial⟩
    · refine Ok.chk (ixT (by omega) (by omega)) (fun c7 => ?_)
      exact Ok.ret ⟨rfl, trivial⟩
set_option maxRecDepth 100000 in
set_option maxHeartbeats 4000000 in
theorem sf_X7_takeNumber {h0 : Hp} (n : Nat) (h : Hp) (x1 : Int32) (x2 : Int32) (hn : 1 ≤ n) (j : J h0 h) : Ok (F_X7_takeNumber n h x1 x2) (fun q => J h0 q.2 ∧ (hi q.2 3 2).toInt = (hi h 3 2).toInt) := by
  unfold F_X7_takeNumber
  refine Ok.bind (sf_X9_valueOf (h0 := h0) n h (hi h 2 4) (by omega) j ) (fun q1 hq1 => ?_)
  obtain ⟨eq1, xq1⟩ := hq1
  rw [eq1]
  refine Ok.bind (sf_X9_placeOf (h0 := h0) n h (hi h 2 4) (by omega) j ) (fun q3 hq3 => ?_)
  obtain ⟨eq3, xq3⟩ := hq3
  rw [eq3]
  have f1 := cR 3 2 0 5 (by decide) j
  refine Ok.bind (sf_X7_take (h0 := h0) n h 30 (by omega) j ) (fun q5 hq5 => ?_)
  obtain ⟨jq5, xq5⟩ := hq5
  have f2 := rgT (q5.1)
  have f3 := lit_0
  refine Ok.eq (fun c4 => ?_) (fun c4 => ?_)
  · have f5 := rgT (x1)
    have f6 := cR 3 2 0 5 (by decide) jq5
    refine Ok.ret ⟨jq5, ?_⟩
    show (hi q5.2 3 2).toInt = (hi h 3 2).toInt
    omega
  · have f7 := rgT ((q1.1 : Int64).toInt32)
    have f8 := rgT (x1)
    refine Ok.lt (fun c9 => ?_) (fun c9 => ?_)
    · have f10 := cR 3 2 0 5 (by decide) jq5
      refine Ok.bind (sf_X7_blame (h0 := h0) n q5.2 5 q3.1 (by omega) jq5 ) (fun q9 hq9 => ?_)
      obtain ⟨jq9, xq9⟩ := hq9
      have f11 := rgT (if x1 < (if (q1.1 : Int64).toInt32 < x2 then (q1.1 : Int64).toInt32 else x2) then (if (q1.1 : Int64).toInt32 < x2 then (q1.1 : Int64).toInt32 else x2) else x1)
      have f12 := cR 3 2 0 5 (by decide) jq9
      refine Ok.ret ⟨jq9, ?_⟩
      show (hi q9 3 2).toInt = (hi h 3 2).toInt
      omega
    · have f13 := rgT (x2)
      refine Ok.le (fun c14 => ?_) (fun c14 => ?_)
      · have f15 := rgT (if x1 < (if (q1.1 : Int64).toInt32 < x2 then (q1.1 : Int64).toInt32 else x2) then (if (q1.1 : Int64).toInt32 < x2 then (q1.1 : Int64).toInt32 else x2) else x1)
        have f16 := cR 3 2 0 5 (by decide) jq5
        refine Ok.ret ⟨jq5, ?_⟩
        show (hi q5.2 3 2).toInt = (hi h 3 2).toInt
        omega
      · have f17 := cR 3 2 0 5 (by decide) jq5
        refine Ok.bind (sf_X7_blame (h0 := h0) n q5.2 5 q3.1 (by omega) jq5 ) (fun q12 hq12 => ?_)
        obtain ⟨jq12, xq12⟩ := hq12
        have f18 := rgT (if x1 < (if (q1.1 : Int64).toInt32 < x2 then (q1.1 : Int64).toInt32 else x2) then (if (q1.1 : Int64).toInt32 < x2 then (q1.1 : Int64).toInt32 else x2) else x1)
        have f19 := cR 3 2 0 5 (by decide) jq12
        refine Ok.ret ⟨jq12, ?_⟩
        show (hi q12 3 2).toInt = (hi h 3 2).toInt
        omega
set_option maxRecDepth 100000 in
set_option maxHeartbeats 4000000 in
theorem sf_X7_readLawn {h0 : Hp} (n : Nat) (h : Hp) (hn : 17179869185 ≤ n) (j : J h0 h) : Ok (F_X7_readLawn n h) (fun q => J h0 q ∧ True) := by
  unfold F_X7_readLawn
  have f1 := cR 3 2 0 5 (by decide) j
  refine Ok.bind (sf_X7_take (h0 := h0) n h 9 (by omega) j ) (fun q1 hq1 => ?_)
  obtain ⟨jq1, xq1⟩ := hq1
  have f2 := cR 3 2 0 5 (by decide) jq1
  refine Ok.bind (sf_X7_takeNumber (h0 := h0) n q1.2 2 5 (by omega) jq1 ) (fun q3 hq3 => ?_)
  obtain ⟨jq3, xq3⟩ := hq3
  have f3 := cR 3 2 0 5 (by decide) jq3
  refine Ok.bind (sf_X7_takeNumber (h0 := h0) n q3.2 2 5 (by omega) jq3 ) (fun q5 hq5 => ?_)
  obtain ⟨jq5, xq5⟩ := hq5
  refine Ok.bind (sf_X3_lay (h0 := h0) n q5.2 4 q3.1 q5.1 (by omega) jq5 fd_4) (fun q7 hq7 => ?_)
  obtain ⟨jq7, xq7⟩ := hq7
  exact Ok.ret ⟨jq7, trivial⟩
set_option maxRecDepth 100000 in
set_option maxHeartbeats 4000000 in
theorem sf_X7_takeSpot {h0 : Hp} (n : Nat) (h : Hp) (hn : 1 ≤ n) (j : J h0 h) : Ok (F_X7_takeSpot n h) (fun q => J h0 q.2 ∧ (hi q.2 3 2).toInt = (hi h 3 2).toInt) := by
  unfold F_X7_takeSpot
  have f1 := cR 3 2 0 5 (by decide) j
  refine Ok.bind (sf_X7_takeNumber (h0 := h0) n h 0 4 (by omega) j ) (fun q1 hq1 => ?_)
  obtain ⟨jq1, xq1⟩ := hq1
  have f2 := cR 3 2 0 5 (by decide) jq1
  refine Ok.bind (sf_X7_takeNumber (h0 := h0) n q1.2 0 4 (by omega) jq1 ) (fun q3 hq3 => ?_)
  obtain ⟨jq3, xq3⟩ := hq3
  have f3 := rgT (q1.1)
  have f4 := lit_5
  have f5 := rgT (q3.1)
  first | have f6 := mlT (5) (q3.1) (5) lit_5 (by omega) (by omega) | have f6 := mlT (5) (q3.1) (5) lit_5
  first | have f7 := adT (q1.1) (5 * q3.1) (by omega) (by omega) | have f7 := adT (q1.1) (5 * q3.1)
  have f8 := rgT (q1.1 + (5 * q3.1))
  have f9 := cR 3 2 0 5 (by decide) jq3
  refine Ok.ret ⟨jq3, ?_⟩
  show (hi q3.2 3 2).toInt = (hi h 3 2).toInt
  omega
set_option maxRecDepth 100000 in
set_option maxHeartbeats 4000000 in
theorem sf_X7_readTune {h0 : Hp} (n : Nat) (h : Hp) (hn : 1 ≤ n) (j : J h0 h) : Ok (F_X7_readTune n h) (fun q => J h0 q ∧ True) := by
  unfold F_X7_readTune
  have f1 := rgT (hi h 2 13)
  have f2 := lit_8
  refine Ok.lt (fun c3 => ?_) (fun c3 => ?_)
  · generalize eg4 : wrI h 2 13 ((hi h 2 13) + 1) = g4
    have jg4 : J h0 g4 := JwI eg4 j (by decide)
    have f5 := congrArg Int32.toInt (hiA eg4 3 2 (by decide))
    have f6 := cR 3 2 0 5 (by decide) j
    have f7 := congrArg Int32.toInt (hiK eg4 2 5 (by decide))
    refine Ok.bind (sf_X7_take (h0 := h0) n g4 10 (by omega) jg4 ) (fun q2 hq2 => ?_)
    obtain ⟨jq2, xq2⟩ := hq2
    have f8 := cR 3 2 0 5 (by decide) jq2
    refine Ok.bind (sf_X7_takeSpot (h0 := h0) n q2.2  (by omega) jq2 ) (fun q4 hq4 => ?_)
    obtain ⟨jq4, xq4⟩ := hq4
    have f9 := cR 3 2 0 5 (by decide) jq4
    refine Ok.bind (sf_X7_takeNumber (h0 := h0) n q4.2 2 6 (by omega) jq4 ) (fun q6 hq6 => ?_)
    obtain ⟨jq6, xq6⟩ := hq6
    have f10 := cR 3 2 0 5 (by decide) jq6
    refine Ok.bind (sf_X7_takeNumber (h0 := h0) n q6.2 0 (q6.1 - 1) (by omega) jq6 ) (fun q8 hq8 => ?_)
    obtain ⟨jq8, xq8⟩ := hq8
    have f11 := rgT (q4.1)
    have f12 := lit_0
    refine Ok.lt (fun c13 => ?_) (fun c13 => ?_)
    · exact Ok.ret ⟨jq8, trivial⟩
    · have f14 := lit_25
      refine Ok.le (fun c15 => ?_) (fun c15 => ?_)
      · exact Ok.ret ⟨jq8, trivial⟩
      · refine Ok.chk (ixT (by omega) (by omega)) (fun c16 => ?_)
        refine Ok.pos c16 ?_
        generalize eg17 : wrI q8.2 16 (Int32.toNatClampNeg q4.1) q6.1 = g17
        have jg17 : J h0 g17 := JwI eg17 jq8 (ncO_nc (by decide))
        generalize eg18 : wrI g17 17 (Int32.toNatClampNeg q4.1) q8.1 = g18
        have jg18 : J h0 g18 := JwI eg18 jg17 (ncO_nc (by decide))
        exact Ok.ret ⟨jg18, trivial⟩
  · have f19 := lit_2
    have f20 := cR 3 2 0 5 (by decide) j
    refine Ok.bind (sf_X7_stop (h0 := h0) n h 2 (by omega) j ) (fun q14 hq14 => ?_)
    obtain ⟨jq14, xq14⟩ := hq14
    generalize eg21 : wrI q14 2 13 ((hi q14 2 13) + 1) = g21
    have jg21 : J h0 g21 := JwI eg21 jq14 (by decide)
    have f22 := congrArg Int32.toInt (hiA eg21 3 2 (by decide))
    have f23 := cR 3 2 0 5 (by decide) jq14
    have f24 := congrArg Int32.toInt (hiK eg21 2 5 (by decide))
    refine Ok.bind (sf_X7_take (h0 := h0) n g21 10 (by omega) jg21 ) (fun q16 hq16 => ?_)
    obtain ⟨jq16, xq16⟩ := hq16
    have f25 := cR 3 2 0 5 (by decide) jq16
    refine Ok.bind (sf_X7_takeSpot (h0 := h0) n q16.2  (by omega) jq16 ) (fun q18 hq18 => ?_)
    obtain ⟨jq18, xq18⟩ := hq18
    have f26 := cR 3 2 0 5 (by decide) jq18
    refine Ok.bind (sf_X7_takeNumber (h0 := h0) n q18.2 2 6 (by omega) jq18 ) (fun q20 hq20 => ?_)
    obtain ⟨jq20, xq20⟩ := hq20
    have f27 := cR 3 2 0 5 (by decide) jq20
    refine Ok.bind (sf_X7_takeNumber (h0 := h0) n q20.2 0 (q20.1 - 1) (by omega) jq20 ) (fun q22 hq22 => ?_)
    obtain ⟨jq22, xq22⟩ := hq22
    have f28 := rgT (q18.1)
    have f29 := lit_0
    refine Ok.lt (fun c30 => ?_) (fun c30 => ?_)
    · exact Ok.ret ⟨jq22, trivial⟩
    · have f31 := lit_25
      refine Ok.le (fun c32 => ?_) (fun c32 => ?_)
      · exact Ok.ret ⟨jq22, trivial⟩
      · refine Ok.chk (ixT (by omega) (by omega)) (fun c33 => ?_)
        refine Ok.pos c33 ?_
        generalize eg34 : wrI q22.2 16 (Int32.toNatClampNeg q18.1) q20.1 = g34
        have jg34 : J h0 g34 := JwI eg34 jq22 (ncO_nc (by decide))
        generalize eg35 : wrI g34 17 (Int32.toNatClampNeg q18.1) q22.1 = g35
        have jg35 : J h0 g35 := JwI eg35 jg34 (ncO_nc (by decide))
        exact Ok.ret ⟨jg35, trivial⟩
