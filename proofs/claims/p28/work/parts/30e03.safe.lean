section
/-! the class comes to its end, 4 -/
set_option maxRecDepth 100000 in
set_option maxHeartbeats 4000000 in
theorem sf_X7_layOut {h0 : Hp} (n : Nat) (h : Hp) (x1 : Int32) (hn : 34359738369 ≤ n) (j : J h0 h) : Ok (F_X7_layOut n h x1) (fun q => J h0 q ∧ True) := by
  unfold F_X7_layOut
  have f1 := lit_0
  exact sfW_X7_layOut_2 (h0 := h0) n h x1 0 j  (by omega) (by omega) (by omega)
set_option maxRecDepth 100000 in
set_option maxHeartbeats 4000000 in
theorem sf_X9_placeOf {h0 : Hp} (n : Nat) (h : Hp) (x1 : Int32) (hn : 1 ≤ n) (j : J h0 h) : Ok (F_X9_placeOf n h x1) (fun q => q.2 = h ∧ True) := by
  unfold F_X9_placeOf
  have f1 := rgT (x1)
  have f2 := lit_0
  refine Ok.lt (fun c3 => ?_) (fun c3 => ?_)
  · exact Ok.ret ⟨rfl, trivial⟩
  · have f4 := cR 18 5 0 401 (by decide) j
    have f5 := rgT (hi h 18 5)
    refine Ok.le (fun c6 => ?_) (fun c6 => ?_)
    · exact Ok.ret ⟨rfl, trivial⟩
    · refine Ok.chk (ixT (by omega) (by omega)) (fun c7 => ?_)
      exact Ok.ret ⟨rfl, trivial⟩
set_option maxRecDepth 100000 in
set_option maxHeartbeats 4000000 in
theorem sf_X9_kindOf {h0 : Hp} (n : Nat) (h : Hp) (x1 : Int32) (hn : 1 ≤ n) (j : J h0 h) : Ok (F_X9_kindOf n h x1) (fun q => q.2 = h ∧ True) := by
  unfold F_X9_kindOf
  have f1 := rgT (x1)
  have f2 := lit_0
  refine Ok.lt (fun c3 => ?_) (fun c3 => ?_)
  · exact Ok.ret ⟨rfl, trivial⟩
  · have f4 := cR 18 5 0 401 (by decide) j
    have f5 := rgT (hi h 18 5)
    refine Ok.le (fun c6 => ?_) (fun c6 => ?_)
    · exact Ok.ret ⟨rfl, trivial⟩
    · refine Ok.chk (ixT (by omega) (by omega)) (fun c7 => ?_)
      exact Ok.ret ⟨rfl, trivial⟩
set_option maxRecDepth 100000 in
set_option maxHeartbeats 4000000 in
theorem sf_X7_kind {h0 : Hp} (n : Nat) (h : Hp) (hn : 1 ≤ n) (j : J h0 h) : Ok (F_X7_kind n h) (fun q => q.2 = h ∧ True) := by
  unfold F_X7_kind
  refine Ok.bind (sf_X9_kindOf (h0 := h0) n h (hi h 2 4) (by omega) j ) (fun q1 hq1 => ?_)
  obtain ⟨eq1, xq1⟩ := hq1
  rw [eq1]
  exact Ok.ret ⟨rfl, trivial⟩
set_option maxRecDepth 100000 in
set_option maxHeartbeats 4000000 in
theorem sf_X7_stop {h0 : Hp} (n : Nat) (h : Hp) (x1 : Int32) (hn : 1 ≤ n) (j : J h0 h) : Ok (F_X7_stop n h x1) (fun q => J h0 q ∧ ((hi q 3 2).toInt = (hi h 3 2).toInt ∧ (x1.toInt ≠ 0 → (hi q 2 5).toInt ≠ 0))) := by
  unfold F_X7_stop
  have f1 := rgT (hi h 2 5)
  have f2 := lit_0
  refine Ok.eq (fun c3 => ?_) (fun c3 => ?_)
  · generalize eg4 : wrI h 2 5 x1 = g4
    have jg4 : J h0 g4 := JwI eg4 j (by decide)
    have f5 := congrArg Int32.toInt (hiA eg4 3 2 (by decide))
    have f6 := cR 3 2 0 5 (by decide) j
    have f7 := congrArg Int32.toInt (hiE eg4)
    have f8 := rgT (x1)
    refine Ok.ret ⟨jg4, ?_⟩
    show ((hi g4 3 2).toInt = (hi h 3 2).toInt ∧ (x1.toInt ≠ 0 → (hi g4 2 5).toInt ≠ 0))
    omega
  · have f9 := cR 3 2 0 5 (by decide) j
    refine Ok.ret ⟨j, ?_⟩
    show ((hi h 3 2).toInt = (hi h 3 2).toInt ∧ (x1.toInt ≠ 0 → (hi h 2 5).toInt ≠ 0))
    omega
set_option maxRecDepth 100000 in
set_option maxHeartbeats 4000000 in
theorem sf_X7_take {h0 : Hp} (n : Nat) (h : Hp) (x1 : Int32) (hn : 1 ≤ n) (j : J h0 h) : Ok (F_X7_take n h x1) (fun q => J h0 q.2 ∧ ((hi q.2 3 2).toInt = (hi h 3 2).toInt ∧ ((hi h 2 5).toInt ≠ 0 → q.1.toInt = 0))) := by
  unfold F_X7_take
  refine Ok.bind (sf_X9_kindOf (h0 := h0) n h (hi h 2 4) (by omega) j ) (fun q1 hq1 => ?_)
  obtain ⟨eq1, xq1⟩ := hq1
  rw [eq1]
  have f1 := rgT (q1.1)
  have f2 := rgT (x1)
  refine Ok.eq (fun c3 => ?_) (fun c3 => ?_)
  · have f4 := rgT (hi h 2 4)
    have f5 := lit_400
    refine Ok.lt (fun c6 => ?_) (fun c6 => ?_)
    · have f7 := rgT (hi h 2 5)
      have f8 := lit_0
      refine Ok.eq (fun c9 => ?_) (fun c9 => ?_)
      · generalize eg10 : wrI h 2 4 ((hi h 2 4) + 1) = g10
        have jg10 : J h0 g10 := JwI eg10 j (by decide)
        have f11 := congrArg Int32.toInt (hiK eg10 2 5 (by decide))
        have f12 := rgT (hi g10 2 5)
        refine Ok.eq (fun c13 => ?_) (fun c13 => ?_)
        · have f14 := lit_1
          have f15 := congrArg Int32.toInt (hiA eg10 3 2 (by decide))
          have f16 := cR 3 2 0 5 (by decide) j
          refine Ok.ret ⟨jg10, ?_⟩
          show ((hi g10 3 2).toInt = (hi h 3 2).toInt ∧ ((hi h 2 5).toInt ≠ 0 → ((1) : Int32).toInt = 0))
          omega
        · have f17 := congrArg Int32.toInt (hiA eg10 3 2 (by decide))
          have f18 := cR 3 2 0 5 (by decide) j
          refine Ok.ret ⟨jg10, ?_⟩
          show ((hi g10 3 2).toInt = (hi h 3 2).toInt ∧ ((hi h 2 5).toInt ≠ 0 → ((0) : Int32).toInt = 0))
          omega
      · refine Ok.eq (fun c19 => ?_) (fun c19 => ?_)
        · have f20 := lit_1
          have f21 := cR 3 2 0 5 (by decide) j
          refine Ok.ret ⟨j, ?_⟩
          show ((hi h 3 2).toInt = (hi h 3 2).toInt ∧ ((hi h 2 5).toInt ≠ 0 → ((1) : Int32).toInt = 0))
          omega
        · have f22 := cR 3 2 0 5 (by decide) j
          refine Ok.ret ⟨j, ?_⟩
          show ((hi h 3 2).toInt = (hi h 3 2).toInt ∧ ((hi h 2 5).toInt ≠ 0 → ((0) : Int32).toInt = 0))
          omega
    · have f23 := lit_2
      have f24 := cR 3 2 0 5 (by decide) j
      refine Ok.bind (sf_X7_stop (h0 := h0) n h 2 (by omega) j ) (fun q8 hq8 => ?_)
      obtain ⟨jq8, xq8⟩ := hq8
      have f25 := rgT (hi q8 2 5)
      have f26 := lit_0
      refine Ok.eq (fun c27 => ?_) (fun c27 => ?_)
      · generalize eg28 : wrI q8 2 4 ((hi q8 2 4) + 1) = g28
        have jg28 : J h0 g28 := JwI eg28 jq8 (by decide)
        have f29 := congrArg Int32.toInt (hiK eg28 2 5 (by decide))
        have f30 := rgT (hi g28 2 5)
        refine Ok.eq (fun c31 => ?_) (fun c31 => ?_)
        · have f32 := lit_1
          have f33 := congrArg Int32.toInt (hiA eg28 3 2 (by decide))
          have f34 := cR 3 2 0 5 (by decide) jq8
          refine Ok.ret ⟨jg28, ?_⟩
          show ((hi g28 3 2).toInt = (hi h 3 2).toInt ∧ ((hi h 2 5).toInt ≠ 0 → ((1) : Int32).toInt = 0))
          omega
        · have f35 := congrArg Int32.toInt (hiA eg28 3 2 (by decide))
          have f36 := cR 3 2 0 5 (by decide) jq8
          refine Ok.ret ⟨jg28, ?_⟩
          show ((hi g28 3 2).toInt = (hi h 3 2).toInt ∧ ((hi h 2 5).toInt ≠ 0 → ((0) : Int32).toInt = 0))
          omega
      · refine Ok.eq (fun c37 => ?_) (fun c37 => ?_)
        · have f38 := lit_1
          have f39 := cR 3 2 0 5 (by decide) jq8
          refine Ok.ret ⟨jq8, ?_⟩
          show ((hi q8 3 2).toInt = (hi h 3 2).toInt ∧ ((hi h 2 5).toInt ≠ 0 → ((1) : Int32).toInt = 0))
          omega
        · have f40 := cR 3 2 0 5 (by decide) jq8
          refine Ok.ret ⟨jq8, ?_⟩
          show ((hi q8 3 2).toInt = (hi h 3 2).toInt ∧ ((hi h 2 5).toInt ≠ 0 → ((0) : Int32).toInt = 0))
          omega
  · have f41 := lit_1
    have f42 := cR 3 2 0 5 (by decide) j
    refine Ok.bind (sf_X7_stop (h0 := h0) n h 1 (by omega) j ) (fun q13 hq13 => ?_)
    obtain ⟨jq13, xq13⟩ := hq13
    have f43 := rgT (hi q13 2 5)
    have f44 := lit_0
    refine Ok.eq (fun c45 => ?_) (fun c45 => ?_)
    · generalize eg46 : wrI q13 2 4 ((hi q13 2 4) + 1) = g46
      have jg46 : J h0 g46 := JwI eg46 jq13 (by decide)
      have f47 := congrArg Int32.toInt (hiK eg46 2 5 (by decide))
      have f48 := rgT (hi g46 2 5)
      refine Ok.eq (fun c49 => ?_) (fun c49 => ?_)
      · have f50 := congrArg Int32.toInt (hiA eg46 3 2 (by decide))
        have f51 := cR 3 2 0 5 (by decide) jq13
        refine Ok.ret ⟨jg46, ?_⟩
        show ((hi g46 3 2).toInt = (hi h 3 2).toInt ∧ ((hi h 2 5).toInt ≠ 0 → ((1) : Int32).toInt = 0))
        omega
      · have f52 := congrArg Int32.toInt (hiA eg46 3 2 (by decide))
        have f53 := cR 3 2 0 5 (by decide) jq13
        refine Ok.ret ⟨jg46, ?_⟩
        show ((hi g46 3 2).toInt = (hi h 3 2).toInt ∧ ((hi h 2 5).toInt ≠ 0 → ((0) : Int32).toInt = 0))
        omega
    · refine Ok.eq (fun c54 => ?_) (fun c54 => ?_)
      · have f55 := cR 3 2 0 5 (by decide) jq13
        refine Ok.ret ⟨jq13, ?_⟩
        show ((hi q13 3 2).toInt = (hi h 3 2).toInt ∧ ((hi h 2 5).toInt ≠ 0 → ((1) : Int32).toInt = 0))
        omega
      · have f56 := cR 3 2 0 5 (by decide) jq13
        refine Ok.ret ⟨jq13, ?_⟩
        show ((hi q13 3 2).toInt = (hi h 3 2).toInt ∧ ((hi h 2 5).toInt ≠ 0 → ((0) : Int32).toInt = 0))
        omega
set_option maxRecDepth 100000 in
set_option maxHeartbeats 4000000 in
theorem sf_X9_valueOf {h0 : Hp} (n : Nat) (h : Hp) (x1 : Int32) (hn : 1 ≤ n) (j : J h0 h) : Ok (F_X9_valueOf n h x1) (fun q => q.2 = h ∧ True) := by
  unfold F_X9_valueOf
  have f1 := rgT (x1)
  have f2 := lit_0
  refine Ok.lt (fun c3 => ?_) (fun c3 => ?_)
  · exact Ok.ret ⟨rfl, trivial⟩
  · have f4 := cR 18 5 0 401 (by decide) j
    have f5 := rgT (hi h 18 5)
    refine Ok.le (fun c6 => ?_) (fun c6 => ?_)
    · exact Ok.ret ⟨rfl, trivial⟩
    · refine Ok.chk (ixT (by omega) (by omega)) (fun c7 => ?_)
      exact Ok.ret ⟨rfl, trivial⟩
set_option maxRecDepth 100000 in
set_option maxHeartbeats 4000000 in
theorem sf_X7_takeNumber {h0 : Hp} (n : Nat) (h : Hp) (x1 : Int32) (x2 : Int32) (hn : 1 ≤ n) (j : J h0 h) : Ok (F_X7_takeNumber n h x1 x2) (fun q => J h0 q.2 ∧ (hi q.2 3 2).toInt = (hi h 3 2).toInt) := by
  unfold F_X7_takeNumber
  refine Ok.bind (sf_X9_valueOf (h0 := h0) n h (hi h 2 4) (by omega) j ) (fun q1 hq1 => ?_)
  obtain ⟨eq1, xq1⟩ := hq1
  rw [eq1]
  refine Ok.bind (sf_X9_placeOf (h0 := h0) n h (hi h 2 4) (by omega) j ) (fun q3 hq3 => ?_)
  obtain ⟨eq3, xq3⟩ := hq3
  rw [eq3]
  have f1 := cR 3 2 0 5 (by decide) j
  refine Ok.bind (sf_X7_take (h0 := h0) n h 30 (by omega) j ) (fun q5 hq5 => ?_)
  obtain ⟨jq5, xq5⟩ := hq5
  have f2 := rgT (q5.1)
  have f3 := lit_0
  refine Ok.eq (fun c4 => ?_) (fun c4 => ?_)
  · have f5 := rgT (x1)
    have f6 := cR 3 2 0 5 (by decide) jq5
    refine Ok.ret ⟨jq5, ?_⟩
    show (hi q5.2 3 2).toInt = (hi h 3 2).toInt
    omega
  · have f7 := rgT ((q1.1 : Int64).toInt32)
    have f8 := rgT (x1)
    refine Ok.lt (fun c9 => ?_) (fun c9 => ?_)
    · have f10 := cR 3 2 0 5 (by decide) jq5
      refine Ok.bind (sf_X7_blame (h0 := h0) n q5.2 5 q3.1 (by omega) jq5 ) (fun q9 hq9 => ?_)
      obtain ⟨jq9, xq9⟩ := hq9
      have f11 := rgT (if x1 < (if (q1.1 : Int64).toInt32 < x2 then (q1.1 : Int64).toInt32 else x2) then (if (q1.1 : Int64).toInt32 < x2 then (q1.1 : Int64).toInt32 else x2) else x1)
      have f12 := cR 3 2 0 5 (by decide) jq9
      refine Ok.ret ⟨jq9, ?_⟩
      show (hi q9 3 2).toInt = (hi h 3 2).toInt
      omega
    · have f13 := rgT (x2)
      refine Ok.le (fun c14 => ?_) (fun c14 => ?_)
      · have f15 := rgT (if x1 < (if (q1.1 : Int64).toInt32 < x2 then (q1.1 : Int64).toInt32 else x2) then (if (q1.1 : Int64).toInt32 < x2 then (q1.1 : Int64).toInt32 else x2) else x1)
        have f16 := cR 3 2 0 5 (by decide) jq5
        refine Ok.ret ⟨jq5, ?_⟩
        show (hi q5.2 3 2).toInt = (hi h 3 2).toInt
        omega
      · have f17 := cR 3 2 0 5 (by decide) jq5
        refine Ok.bind (sf_X7_blame (h0 := h0) n q5.2 5 q3.1 (by omega) jq5 ) (fun q12 hq12 => ?_)
        obtain ⟨jq12, xq12⟩ := hq12
        have f18 := rgT (if x1 < (if (q1.1 : Int64).toInt32 < x2 then (q1.1 : Int64).toInt32 else x2) then (if (q1.1 : Int64).toInt32 < x2 then (q1.1 : Int64).toInt32 else x2) else x1)
        have f19 := cR 3 2 0 5 (by decide) jq12
        refine Ok.ret ⟨jq12, ?_⟩
        show (hi q12 3 2).toInt = (hi h 3 2).toInt
        omega
set_option maxRecDepth 100000 in
set_option maxHeartbeats 4000000 in
theorem sf_X7_readLawn {h0 : Hp} (n : Nat) (h : Hp) (hn : 17179869185 ≤ n) (j : J h0 h) : Ok (F_X7_readLawn n h) (fun q => J h0 q ∧ True) := by
  unfold F_X7_readLawn
  have f1 := cR 3 2 0 5 (by decide) j
  refine Ok.bind (sf_X7_take (h0 := h0) n h 9 (by omega) j ) (fun q1 hq1 => ?_)
  obtain ⟨jq1, xq1⟩ := hq1
  have f2 := cR 3 2 0 5 (by decide) jq1
  refine Ok.bind (sf_X7_takeNumber (h0 := h0) n q1.2 2 5 (by omega) jq1 ) (fun q3 hq3 => ?_)
  obtain ⟨jq3, xq3⟩ := hq3
  have f3 := cR 3 2 0 5 (by decide) jq3
  refine Ok.bind (sf_X7_takeNumber (h0 := h0) n q3.2 2 5 (by omega) jq3 ) (fun q5 hq5 => ?_)
  obtain ⟨jq5, xq5⟩ := hq5
  refine Ok.bind (sf_X3_lay (h0 := h0) n q5.2 4 q3.1 q5.1 (by omega) jq5 fd_4) (fun q7 hq7 => ?_)
  obtain ⟨jq7, xq7⟩ := hq7
  exact Ok.ret ⟨jq7, trivial⟩
set_option maxRecDepth 100000 in
set_option maxHeartbeats 4000000 in
theorem sf_X7_takeSpot {h0 : Hp} (n : Nat) (h : Hp) (hn : 1 ≤ n) (j : J h0 h) : Ok (F_X7_takeSpot n h) (fun q => J h0 q.2 ∧ (hi q.2 3 2).toInt = (hi h 3 2).toInt) := by
  unfold F_X7_takeSpot
  have f1 := cR 3 2 0 5 (by decide) j
  refine Ok.bind (sf_X7_takeNumber (h0 := h0) n h 0 4 (by omega) j ) (fun q1 hq1 => ?_)
  obtain ⟨jq1, xq1⟩ := hq1
  have f2 := cR 3 2 0 5 (by decide) jq1
  refine Ok.bind (sf_X7_takeNumber (h0 := h0) n q1.2 0 4 (by omega) jq1 ) (fun q3 hq3 => ?_)
  obtain ⟨jq3, xq3⟩ := hq3
  have f3 := rgT (q1.1)
  have f4 := lit_5
  have f5 := rgT (q3.1)
  first | have f6 := mlT (5) (q3.1) (5) lit_5 (by omega) (by omega) | have f6 := mlT (5) (q3.1) (5) lit_5
  first | have f7 := adT (q1.1) (5 * q3.1) (by omega) (by omega) | have f7 := adT (q1.1) (5 * q3.1)
  have f8 := rgT (q1.1 + (5 * q3.1))
  have f9 := cR 3 2 0 5 (by decide) jq3
  refine Ok.ret ⟨jq3, ?_⟩
  show (hi q3.2 3 2).toInt = (hi h 3 2).toInt
  omega
set_option maxRecDepth 100000 in
set_option maxHeartbeats 4000000 in
theorem sf_X7_readTune {h0 : Hp} (n : Nat) (h : Hp) (hn : 1 ≤ n) (j : J h0 h) : Ok (F_X7_readTune n h) (fun q => J h0 q ∧ True) := by
  unfold F_X7_readTune
  have f1 := rgT (hi h 2 13)
  have f2 := lit_8
  refine Ok.lt (fun c3 => ?_) (fun c3 => ?_)
  · generalize eg4 : wrI h 2 13 ((hi h 2 13) + 1) = g4
    have jg4 : J h0 g4 := JwI eg4 j (by decide)
    have f5 := congrArg Int32.toInt (hiA eg4 3 2 (by decide))
    have f6 := cR 3 2 0 5 (by decide) j
    have f7 := congrArg Int32.toInt (hiK eg4 2 5 (by decide))
    refine Ok.bind (sf_X7_take (h0 := h0) n g4 10 (by omega) jg4 ) (fun q2 hq2 => ?_)
    obtain ⟨jq2, xq2⟩ := hq2
    have f8 := cR 3 2 0 5 (by decide) jq2
    refine Ok.bind (sf_X7_takeSpot (h0 := h0) n q2.2  (by omega) jq2 ) (fun q4 hq4 => ?_)
    obtain ⟨jq4, xq4⟩ := hq4
    have f9 := cR 3 2 0 5 (by decide) jq4
    refine Ok.bind (sf_X7_takeNumber (h0 := h0) n q4.2 2 6 (by omega) jq4 ) (fun q6 hq6 => ?_)
    obtain ⟨jq6, xq6⟩ := hq6
    have f10 := cR 3 2 0 5 (by decide) jq6
    refine Ok.bind (sf_X7_takeNumber (h0 := h0) n q6.2 0 (q6.1 - 1) (by omega) jq6 ) (fun q8 hq8 => ?_)
    obtain ⟨jq8, xq8⟩ := hq8
    have f11 := rgT (q4.1)
    have f12 := lit_0
    refine Ok.lt (fun c13 => ?_) (fun c13 => ?_)
    · exact Ok.ret ⟨jq8, trivial⟩
    · have f14 := lit_25
      refine Ok.le (fun c15 => ?_) (fun c15 => ?_)
      · exact Ok.ret ⟨jq8, trivial⟩
      · refine Ok.chk (ixT (by omega) (by omega)) (fun c16 => ?_)
        refine Ok.pos c16 ?_
        generalize eg17 : wrI q8.2 16 (Int32.toNatClampNeg q4.1) q6.1 = g17
        have jg17 : J h0 g17 := JwI eg17 jq8 (ncO_nc (by decide))
        generalize eg18 : wrI g17 17 (Int32.toNatClampNeg q4.1) q8.1 = g18
        have jg18 : J h0 g18 := JwI eg18 jg17 (ncO_nc (by decide))
        exact Ok.ret ⟨jg18, trivial⟩
  · have f19 := lit_2
    have f20 := cR 3 2 0 5 (by decide) j
    refine Ok.bind (sf_X7_stop (h0 := h0) n h 2 (by omega) j ) (fun q14 hq14 => ?_)
    obtain ⟨jq14, xq14⟩ := hq14
    generalize eg21 : wrI q14 2 13 ((hi q14 2 13) + 1) = g21
    have jg21 : J h0 g21 := JwI eg21 jq14 (by decide)
    have f22 := congrArg Int32.toInt (hiA eg21 3 2 (by decide))
    have f23 := cR 3 2 0 5 (by decide) jq14
    have f24 := congrArg Int32.toInt (hiK eg21 2 5 (by decide))
    refine Ok.bind (sf_X7_take (h0 := h0) n g21 10 (by omega) jg21 ) (fun q16 hq16 => ?_)
    obtain ⟨jq16, xq16⟩ := hq16
    have f25 := cR 3 2 0 5 (by decide) jq16
    refine Ok.bind (sf_X7_takeSpot (h0 := h0) n q16.2  (by omega) jq16 ) (fun q18 hq18 => ?_)
    obtain ⟨jq18, xq18⟩ := hq18
    have f26 := cR 3 2 0 5 (by decide) jq18
    refine Ok.bind (sf_X7_takeNumber (h0 := h0) n q18.2 2 6 (by omega) jq18 ) (fun q20 hq20 => ?_)
    obtain ⟨jq20, xq20⟩ := hq20
    have f27 := cR 3 2 0 5 (by decide) jq20
    refine Ok.bind (sf_X7_takeNumber (h0 := h0) n q20.2 0 (q20.1 - 1) (by omega) jq20 ) (fun q22 hq22 => ?_)
    obtain ⟨jq22, xq22⟩ := hq22
    have f28 := rgT (q18.1)
    have f29 := lit_0
    refine Ok.lt (fun c30 => ?_) (fun c30 => ?_)
    · exact Ok.ret ⟨jq22, trivial⟩
    · have f31 := lit_25
      refine Ok.le (fun c32 => ?_) (fun c32 => ?_)
      · exact Ok.ret ⟨jq22, trivial⟩
      · refine Ok.chk (ixT (by omega) (by omega)) (fun c33 => ?_)
        refine Ok.pos c33 ?_
        generalize eg34 : wrI q22.2 16 (Int32.toNatClampNeg q18.1) q20.1 = g34
        have jg34 : J h0 g34 := JwI eg34 jq22 (ncO_nc (by decide))
        generalize eg35 : wrI g34 17 (Int32.toNatClampNeg q18.1) q22.1 = g35
        have jg35 : J h0 g35 := JwI eg35 jg34 (ncO_nc (by decide))
        exact Ok.ret ⟨jg35, trivial⟩
end
section
/-! the class comes to its end, 5 -/
set_option maxRecDepth 100000 in
set_option maxHeartbeats 4000000 in
theorem sfW_X7_readGoer_64 {h0 : Hp} : ∀ (n : Nat), (∀ (h : Hp) (l1 : Int32) (l2 : Int32) (l3 : Int32), J h0 h → 0 ≤ l1.toInt → l1.toInt < 5 → 0 ≤ l3.toInt → (hi h 3 2).toInt = l1.toInt → (1 : Int) < n → (1 : Int) + (l1.toInt - l3.toInt) < n → Ok (W_X7_readGoer n 64 h l1 l2 l3) (fun q => J h0 q ∧ True)) := by
  intro n
  induction n with
  | zero => intro h l1 l2 l3 j i0 i1 i2 i3 hB hM; exfalso; omega
  | succ n ih =>
    intro h l1 l2 l3 j i0 i1 i2 i3 hB hM
    rw [u_X7_readGoer]
    refine Ok.pos rfl ?_
    have f1 := rgT (l1)
    have f2 := rgT (l3)
    refine Ok.le (fun c3 => ?_) (fun c3 => ?_)
    · have f4 := cR 3 2 0 5 (by decide) j
      refine Ok.bind (sf_X7_takeSpot (h0 := h0) n h  (by omega) j ) (fun q2 hq2 => ?_)
      obtain ⟨jq2, xq2⟩ := hq2
      refine Ok.chk (ixT (by omega) (by omega)) (fun c5 => ?_)
      generalize eg6 : wrI q2.2 15 (Int32.toNatClampNeg l1) q2.1 = g6
      have jg6 : J h0 g6 := JwI eg6 jq2 (ncO_nc (by decide))
      generalize eg7 : wrI g6 3 2 ((hi g6 3 2) + 1) = g7
      have f8 := congrArg Int32.toInt (hiA eg6 3 2 (by decide))
      have f9 := cR 3 2 0 5 (by decide) jq2
      have f10 := rgT (hi g6 3 2)
      have f11 := lit_1
      first | have f12 := adT (hi g6 3 2) (1) (by omega) (by omega) | have f12 := adT (hi g6 3 2) (1)
      have f13 := rgT ((hi g6 3 2) + 1)
      have jg7 : J h0 g7 := JwC 0 5 eg7 jg6 (by decide) ⟨by omega, by omega⟩ (by decide)
      exact Ok.ret ⟨jg7, trivial⟩
    · refine Ok.chk (ixT (by omega) (by omega)) (fun c14 => ?_)
      refine Ok.chk (ixT (by omega) (by omega)) (fun c15 => ?_)
      have f16 := rgT (lg_cmp (hl h 14 (Int32.toNatClampNeg l3)) (hl h 14 (Int32.toNatClampNeg l1)))
      have f17 := lit_0
      refine Ok.eq (fun c18 => ?_) (fun c18 => ?_)
      · have f19 := cR 3 2 0 5 (by decide) j
        refine Ok.bind (sf_X7_blame (h0 := h0) n h 3 l2 (by omega) j ) (fun q8 hq8 => ?_)
        obtain ⟨jq8, xq8⟩ := hq8
        have f20 := lit_1
        first | have f21 := adT (l3) (1) (by omega) (by omega) | have f21 := adT (l3) (1)
        have f22 := rgT (l3 + 1)
        have f23 := cR 3 2 0 5 (by decide) jq8
        exact ih q8 l1 l2 (l3 + 1) jq8  (by omega) (by omega) (by omega) (by omega) (by omega) (by omega)
      · have f24 := lit_1
        first | have f25 := adT (l3) (1) (by omega) (by omega) | have f25 := adT (l3) (1)
        have f26 := rgT (l3 + 1)
        have f27 := cR 3 2 0 5 (by decide) j
        exact ih h l1 l2 (l3 + 1) j  (by omega) (by omega) (by omega) (by omega) (by omega) (by omega)
set_option maxRecDepth 100000 in
set_option maxHeartbeats 4000000 in
theorem sf_X7_readGoer {h0 : Hp} (n : Nat) (h : Hp) (hn : 17179869185 ≤ n) (j : J h0 h) : Ok (F_X7_readGoer n h) (fun q => J h0 q ∧ True) := by
  unfold F_X7_readGoer
  have f1 := cR 3 2 0 5 (by decide) j
  have f2 := rgT (hi h 3 2)
  have f3 := lit_5
  refine Ok.lt (fun c4 => ?_) (fun c4 => ?_)
  · refine Ok.bind (sf_X7_take (h0 := h0) n h 11 (by omega) j ) (fun q11 hq11 => ?_)
    obtain ⟨jq11, xq11⟩ := hq11
    refine Ok.bind (sf_X9_valueOf (h0 := h0) n q11.2 (hi q11.2 2 4) (by omega) jq11 ) (fun q13 hq13 => ?_)
    obtain ⟨eq13, xq13⟩ := hq13
    rw [eq13]
    refine Ok.chk (ixT (by omega) (by omega)) (fun c5 => ?_)
    generalize eg6 : wrL q11.2 14 (Int32.toNatClampNeg (hi h 3 2)) q13.1 = g6
    have jg6 : J h0 g6 := JwL eg6 jq11 (by decide)
    refine Ok.bind (sf_X9_placeOf (h0 := h0) n g6 (hi g6 2 4) (by omega) jg6 ) (fun q16 hq16 => ?_)
    obtain ⟨eq16, xq16⟩ := hq16
    rw [eq16]
    have f7 := congrArg Int32.toInt (hiLL eg6 3 2)
    have f8 := cR 3 2 0 5 (by decide) jq11
    have f9 := congrArg Int32.toInt (hiLL eg6 2 5)
    refine Ok.bind (sf_X7_take (h0 := h0) n g6 31 (by omega) jg6 ) (fun q18 hq18 => ?_)
    obtain ⟨jq18, xq18⟩ := hq18
    have f10 := lit_0
    have f11 := cR 3 2 0 5 (by decide) jq18
    exact sfW_X7_readGoer_64 (h0 := h0) n q18.2 (hi h 3 2) q16.1 0 jq18  (by omega) (by omega) (by omega) (by omega) (by omega) (by omega)
  · have f12 := lit_2
    refine Ok.bind (sf_X7_stop (h0 := h0) n h 2 (by omega) j ) (fun q20 hq20 => ?_)
    obtain ⟨jq20, xq20⟩ := hq20
    exact Ok.ret ⟨jq20, trivial⟩
set_option maxRecDepth 100000 in
set_option maxHeartbeats 4000000 in
theorem sf_X7_readRope {h0 : Hp} (n : Nat) (h : Hp) (hn : 1 ≤ n) (j : J h0 h) : Ok (F_X7_readRope n h) (fun q => J h0 q ∧ True) := by
  unfold F_X7_readRope
  have f1 := rgT (hi h 2 14)
  have f2 := lit_8
  refine Ok.lt (fun c3 => ?_) (fun c3 => ?_)
  · generalize eg4 : wrI h 2 14 ((hi h 2 14) + 1) = g4
    have jg4 : J h0 g4 := JwI eg4 j (by decide)
    have f5 := congrArg Int32.toInt (hiA eg4 3 2 (by decide))
    have f6 := cR 3 2 0 5 (by decide) j
    have f7 := congrArg Int32.toInt (hiK eg4 2 5 (by decide))
    refine Ok.bind (sf_X7_take (h0 := h0) n g4 12 (by omega) jg4 ) (fun q2 hq2 => ?_)
    obtain ⟨jq2, xq2⟩ := hq2
    have f8 := cR 3 2 0 5 (by decide) jq2
    refine Ok.bind (sf_X7_takeSpot (h0 := h0) n q2.2  (by omega) jq2 ) (fun q4 hq4 => ?_)
    obtain ⟨jq4, xq4⟩ := hq4
    generalize eg9 : wrI q4.2 2 12 (((hi q2.2 2 12) : Int32) ||| (((1 : Int32) <<< ((q4.1 : Int32) &&& 31)) : Int32)) = g9
    have jg9 : J h0 g9 := JwI eg9 jq4 (by decide)
    exact Ok.ret ⟨jg9, trivial⟩
  · have f10 := lit_2
    have f11 := cR 3 2 0 5 (by decide) j
    refine Ok.bind (sf_X7_stop (h0 := h0) n h 2 (by omega) j ) (fun q6 hq6 => ?_)
    obtain ⟨jq6, xq6⟩ := hq6
    generalize eg12 : wrI q6 2 14 ((hi q6 2 14) + 1) = g12
    have jg12 : J h0 g12 := JwI eg12 jq6 (by decide)
    have f13 := congrArg Int32.toInt (hiA eg12 3 2 (by decide))
    have f14 := cR 3 2 0 5 (by decide) jq6
    have f15 := congrArg Int32.toInt (hiK eg12 2 5 (by decide))
    refine Ok.bind (sf_X7_take (h0 := h0) n g12 12 (by omega) jg12 ) (fun q8 hq8 => ?_)
    obtain ⟨jq8, xq8⟩ := hq8
    have f16 := cR 3 2 0 5 (by decide) jq8
    refine Ok.bind (sf_X7_takeSpot (h0 := h0) n q8.2  (by omega) jq8 ) (fun q10 hq10 => ?_)
    obtain ⟨jq10, xq10⟩ := hq10
    generalize eg17 : wrI q10.2 2 12 (((hi q8.2 2 12) : Int32) ||| (((1 : Int32) <<< ((q10.1 : Int32) &&& 31)) : Int32)) = g17
    have jg17 : J h0 g17 := JwI eg17 jq10 (by decide)
    exact Ok.ret ⟨jg17, trivial⟩
set_option maxRecDepth 100000 in
set_option maxHeartbeats 4000000 in
theorem sf_X7_readUnit {h0 : Hp} {e : Nat} {S : Nat → Hp → Int32 → Option Hp} (hS : ∀ (n : Nat) (h : Hp) (x1 : Int32), 17179869184 * (19 + e) ≤ n → J h0 h → 0 ≤ x1.toInt → x1.toInt ≤ 6 → 7 - x1.toInt ≤ e - 1 → Ok (S n h x1) (fun q => J h0 q ∧ True)) (n : Nat) (h : Hp) (x1 : Int32) (hn : 17179869184 * (19 + e) ≤ n) (j : J h0 h) (p0 : 0 ≤ x1.toInt) (p1 : x1.toInt ≤ 6) (p2 : 7 - x1.toInt ≤ e) : Ok (F_X7_readUnit S n h x1) (fun q => J h0 q ∧ True) := by
  unfold F_X7_readUnit
  refine Ok.bind (sf_X7_kind (h0 := h0) n h  (by omega) j ) (fun q1 hq1 => ?_)
  obtain ⟨eq1, xq1⟩ := hq1
  rw [eq1]
  have f1 := rgT (q1.1)
  have f2 := lit_30
  refine Ok.eq (fun c3 => ?_) (fun c3 => ?_)
  · refine Ok.bind (sf_X9_valueOf (h0 := h0) n h (hi h 2 4) (by omega) j ) (fun q50 hq50 => ?_)
    obtain ⟨eq50, xq50⟩ := hq50
    rw [eq50]
    refine Ok.bind (sf_X4_add (h0 := h0) n h 5 ((q50.1 : Int64).toInt32) (by omega) j lw_5) (fun q52 hq52 => ?_)
    obtain ⟨jq52, xq52⟩ := hq52
    have f4 := cR 3 2 0 5 (by decide) jq52
    refine Ok.bind (sf_X7_take (h0 := h0) n q52 q1.1 (by omega) jq52 ) (fun q54 hq54 => ?_)
    obtain ⟨jq54, xq54⟩ := hq54
    exact Ok.ret ⟨jq54, trivial⟩
  · have f5 := lit_0
    refine Ok.lt (fun c6 => ?_) (fun c6 => ?_)
    · have f7 := lit_40
      refine Ok.eq (fun c8 => ?_) (fun c8 => ?_)
      · have f9 := rgT (x1)
        have f10 := lit_6
        refine Ok.lt (fun c11 => ?_) (fun c11 => ?_)
        · have f12 := cR 3 2 0 5 (by decide) j
          refine Ok.bind (sf_X7_take (h0 := h0) n h q1.1 (by omega) j ) (fun q7 hq7 => ?_)
          obtain ⟨jq7, xq7⟩ := hq7
          have f13 := rgT (q7.1)
          refine Ok.eq (fun c14 => ?_) (fun c14 => ?_)
          · exact Ok.ret ⟨jq7, trivial⟩
          · have f15 := lit_1
            first | have f16 := adT (x1) (1) (by omega) (by omega) | have f16 := adT (x1) (1)
            have f17 := rgT (x1 + 1)
            refine Ok.bind (hS n q7.2 (x1 + 1) (by omega) jq7 (by omega) (by omega) (by omega)) (fun q10 hq10 => ?_)
            obtain ⟨jq10, xq10⟩ := hq10
            have f18 := cR 3 2 0 5 (by decide) jq10
            refine Ok.bind (sf_X7_take (h0 := h0) n q10 41 (by omega) jq10 ) (fun q12 hq12 => ?_)
            obtain ⟨jq12, xq12⟩ := hq12
            exact Ok.ret ⟨jq12, trivial⟩
        · have f19 := lit_2
          have f20 := cR 3 2 0 5 (by decide) j
          refine Ok.bind (sf_X7_stop (h0 := h0) n h 2 (by omega) j ) (fun q14 hq14 => ?_)
          obtain ⟨jq14, xq14⟩ := hq14
          have f21 := cR 3 2 0 5 (by decide) jq14
          refine Ok.bind (sf_X7_take (h0 := h0) n q14 q1.1 (by omega) jq14 ) (fun q16 hq16 => ?_)
          obtain ⟨jq16, xq16⟩ := hq16
          have f22 := rgT (q16.1)
          refine Ok.eq (fun c23 => ?_) (fun c23 => ?_)
          · exact Ok.ret ⟨jq16, trivial⟩
          · have f24 := lit_1
            first | have f25 := adT (x1) (1) (by omega) (by omega) | have f25 := adT (x1) (1)
            have f26 := rgT (x1 + 1)
            refine Ok.bind (hS n q16.2 (x1 + 1) (by omega) jq16 (by omega) (by omega) (by omega)) (fun q19 hq19 => ?_)
            obtain ⟨jq19, xq19⟩ := hq19
            have f27 := cR 3 2 0 5 (by decide) jq19
            refine Ok.bind (sf_X7_take (h0 := h0) n q19 41 (by omega) jq19 ) (fun q21 hq21 => ?_)
            obtain ⟨jq21, xq21⟩ := hq21
            exact Ok.ret ⟨jq21, trivial⟩
      · have f28 := lit_1
        have f29 := cR 3 2 0 5 (by decide) j
        refine Ok.bind (sf_X7_stop (h0 := h0) n h 1 (by omega) j ) (fun q23 hq23 => ?_)
        obtain ⟨jq23, xq23⟩ := hq23
        exact Ok.ret ⟨jq23, trivial⟩
    · have f30 := lit_9
      refine Ok.le (fun c31 => ?_) (fun c31 => ?_)
      · have f32 := lit_40
        refine Ok.eq (fun c33 => ?_) (fun c33 => ?_)
        · have f34 := rgT (x1)
          have f35 := lit_6
          refine Ok.lt (fun c36 => ?_) (fun c36 => ?_)
          · have f37 := cR 3 2 0 5 (by decide) j
            refine Ok.bind (sf_X7_take (h0 := h0) n h q1.1 (by omega) j ) (fun q28 hq28 => ?_)
            obtain ⟨jq28, xq28⟩ := hq28
            have f38 := rgT (q28.1)
            refine Ok.eq (fun c39 => ?_) (fun c39 => ?_)
            · exact Ok.ret ⟨jq28, trivial⟩
            · have f40 := lit_1
              first | have f41 := adT (x1) (1) (by omega) (by omega) | have f41 := adT (x1) (1)
              have f42 := rgT (x1 + 1)
              refine Ok.bind (hS n q28.2 (x1 + 1) (by omega) jq28 (by omega) (by omega) (by omega)) (fun q31 hq31 => ?_)
              obtain ⟨jq31, xq31⟩ := hq31
              have f43 := cR 3 2 0 5 (by decide) jq31
              refine Ok.bind (sf_X7_take (h0 := h0) n q31 41 (by omega) jq31 ) (fun q33 hq33 => ?_)
              obtain ⟨jq33, xq33⟩ := hq33
              exact Ok.ret ⟨jq33, trivial⟩
          · have f44 := lit_2
            have f45 := cR 3 2 0 5 (by decide) j
            refine Ok.bind (sf_X7_stop (h0 := h0) n h 2 (by omega) j ) (fun q35 hq35 => ?_)
            obtain ⟨jq35, xq35⟩ := hq35
            have f46 := cR 3 2 0 5 (by decide) jq35
            refine Ok.bind (sf_X7_take (h0 := h0) n q35 q1.1 (by omega) jq35 ) (fun q37 hq37 => ?_)
            obtain ⟨jq37, xq37⟩ := hq37
            have f47 := rgT (q37.1)
            refine Ok.eq (fun c48 => ?_) (fun c48 => ?_)
            · exact Ok.ret ⟨jq37, trivial⟩
            · have f49 := lit_1
              first | have f50 := adT (x1) (1) (by omega) (by omega) | have f50 := adT (x1) (1)
              have f51 := rgT (x1 + 1)
              refine Ok.bind (hS n q37.2 (x1 + 1) (by omega) jq37 (by omega) (by omega) (by omega)) (fun q40 hq40 => ?_)
              obtain ⟨jq40, xq40⟩ := hq40
              have f52 := cR 3 2 0 5 (by decide) jq40
              refine Ok.bind (sf_X7_take (h0 := h0) n q40 41 (by omega) jq40 ) (fun q42 hq42 => ?_)
              obtain ⟨jq42, xq42⟩ := hq42
              exact Ok.ret ⟨jq42, trivial⟩
        · have f53 := lit_1
          have f54 := cR 3 2 0 5 (by decide) j
          refine Ok.bind (sf_X7_stop (h0 := h0) n h 1 (by omega) j ) (fun q44 hq44 => ?_)
          obtain ⟨jq44, xq44⟩ := hq44
          exact Ok.ret ⟨jq44, trivial⟩
      · refine Ok.bind (sf_X4_add (h0 := h0) n h 5 ((-1) - q1.1) (by omega) j lw_5) (fun q46 hq46 => ?_)
        obtain ⟨jq46, xq46⟩ := hq46
        have f55 := cR 3 2 0 5 (by decide) jq46
        refine Ok.bind (sf_X7_take (h0 := h0) n q46 q1.1 (by omega) jq46 ) (fun q48 hq48 => ?_)
        obtain ⟨jq48, xq48⟩ := hq48
        exact Ok.ret ⟨jq48, trivial⟩
set_option maxRecDepth 100000 in
set_option maxHeartbeats 4000000 in
theorem sfW_X7_readSum_9 {h0 : Hp} {e : Nat} {S : Nat → Hp → Int32 → Option Hp} (hS : ∀ (n : Nat) (h : Hp) (x1 : Int32), 17179869184 * (19 + e) ≤ n → J h0 h → 0 ≤ x1.toInt → x1.toInt ≤ 6 → 7 - x1.toInt ≤ e - 1 → Ok (S n h x1) (fun q => J h0 q ∧ True)) : ∀ (n : Nat), (∀ (h : Hp) (l1 : Int32) (l2 : Int32) (l3 : Int32), J h0 h → 0 ≤ l1.toInt → l1.toInt ≤ 6 → 7 - l1.toInt ≤ e → (17179869184 * (19 + e) : Int) < n → (17179869184 * (19 + e) : Int) + (401 - l3.toInt) < n → Ok (W_X7_readSum S n 9 h l1 l2 l3) (fun q => J h0 q ∧ True)) := by
  intro n
  induction n with
  | zero => intro h l1 l2 l3 j i0 i1 i2 hB hM; exfalso; omega
  | succ n ih =>
    intro h l1 l2 l3 j i0 i1 i2 hB hM
    rw [u_X7_readSum]
    refine Ok.pos rfl ?_
    have f1 := lit_400
    have f2 := rgT (l3)
    refine Ok.lt (fun c3 => ?_) (fun c3 => ?_)
    · exact Ok.ret ⟨j, trivial⟩
    · have f4 := rgT (hi h 2 5)
      have f5 := lit_0
      refine Ok.eq (fun c6 => ?_) (fun c6 => ?_)
      · refine Ok.bind (sf_X7_kind (h0 := h0) n h  (by omega) j ) (fun q3 hq3 => ?_)
        obtain ⟨eq3, xq3⟩ := hq3
        rw [eq3]
        have f7 := rgT (q3.1)
        have f8 := lit_42
        refine Ok.eq (fun c9 => ?_) (fun c9 => ?_)
        · have f10 := cR 3 2 0 5 (by decide) j
          refine Ok.bind (sf_X7_take (h0 := h0) n h q3.1 (by omega) j ) (fun q6 hq6 => ?_)
          obtain ⟨jq6, xq6⟩ := hq6
          have f11 := rgT (l1)
          refine Ok.bind (sf_X7_readUnit (h0 := h0) hS n q6.2 l1 (by omega) jq6 (by omega) (by omega) (by omega)) (fun q8 hq8 => ?_)
          obtain ⟨jq8, xq8⟩ := hq8
          refine Ok.eq (fun c12 => ?_) (fun c12 => ?_)
          · refine Ok.bind (sf_X4_add (h0 := h0) n q8 5 (-12) (by omega) jq8 lw_5) (fun q13 hq13 => ?_)
            obtain ⟨jq13, xq13⟩ := hq13
            have f13 := lit_1
            first | have f14 := adT (l3) (1) (by omega) (by omega) | have f14 := adT (l3) (1)
            have f15 := rgT (l3 + 1)
            exact ih q13 l1 l2 (l3 + 1) jq13  (by omega) (by omega) (by omega) (by omega) (by omega)
          · refine Ok.bind (sf_X4_add (h0 := h0) n q8 5 (-13) (by omega) jq8 lw_5) (fun q11 hq11 => ?_)
            obtain ⟨jq11, xq11⟩ := hq11
            have f16 := lit_1
            first | have f17 := adT (l3) (1) (by omega) (by omega) | have f17 := adT (l3) (1)
            have f18 := rgT (l3 + 1)
            exact ih q11 l1 l2 (l3 + 1) jq11  (by omega) (by omega) (by omega) (by omega) (by omega)
        · have f19 := lit_47
          refine Ok.eq (fun c20 => ?_) (fun c20 => ?_)
          · have f21 := cR 3 2 0 5 (by decide) j
            refine Ok.bind (sf_X7_take (h0 := h0) n h q3.1 (by omega) j ) (fun q52 hq52 => ?_)
            obtain ⟨jq52, xq52⟩ := hq52
            have f22 := rgT (l1)
            refine Ok.bind (sf_X7_readUnit (h0 := h0) hS n q52.2 l1 (by omega) jq52 (by omega) (by omega) (by omega)) (fun q54 hq54 => ?_)
            obtain ⟨jq54, xq54⟩ := hq54
            refine Ok.eq (fun c23 => ?_) (fun c23 => ?_)
            · refine Ok.bind (sf_X4_add (h0 := h0) n q54 5 (-12) (by omega) jq54 lw_5) (fun q59 hq59 => ?_)
              obtain ⟨jq59, xq59⟩ := hq59
              have f24 := lit_1
              first | have f25 := adT (l3) (1) (by omega) (by omega) | have f25 := adT (l3) (1)
              have f26 := rgT (l3 + 1)
              exact ih q59 l1 l2 (l3 + 1) jq59  (by omega) (by omega) (by omega) (by omega) (by omega)
            · refine Ok.bind (sf_X4_add (h0 := h0) n q54 5 (-13) (by omega) jq54 lw_5) (fun q57 hq57 => ?_)
              obtain ⟨jq57, xq57⟩ := hq57
              have f27 := lit_1
              first | have f28 := adT (l3) (1) (by omega) (by omega) | have f28 := adT (l3) (1)
              have f29 := rgT (l3 + 1)
              exact ih q57 l1 l2 (l3 + 1) jq57  (by omega) (by omega) (by omega) (by omega) (by omega)
          · have f30 := rgT (l2)
            refine Ok.eq (fun c31 => ?_) (fun c31 => ?_)
            · have f32 := lit_43
              refine Ok.eq (fun c33 => ?_) (fun c33 => ?_)
              · have f34 := cR 3 2 0 5 (by decide) j
                refine Ok.bind (sf_X7_take (h0 := h0) n h q3.1 (by omega) j ) (fun q18 hq18 => ?_)
                obtain ⟨jq18, xq18⟩ := hq18
                have f35 := rgT (l1)
                refine Ok.bind (sf_X7_readUnit (h0 := h0) hS n q18.2 l1 (by omega) jq18 (by omega) (by omega) (by omega)) (fun q20 hq20 => ?_)
                obtain ⟨jq20, xq20⟩ := hq20
                have f36 := lit_1
                first | have f37 := adT (l3) (1) (by omega) (by omega) | have f37 := adT (l3) (1)
                have f38 := rgT (l3 + 1)
                exact ih q20 l1 q3.1 (l3 + 1) jq20  (by omega) (by omega) (by omega) (by omega) (by omega)
              · have f39 := lit_45
                refine Ok.eq (fun c40 => ?_) (fun c40 => ?_)
                · have f41 := cR 3 2 0 5 (by decide) j
                  refine Ok.bind (sf_X7_take (h0 := h0) n h q3.1 (by omega) j ) (fun q23 hq23 => ?_)
                  obtain ⟨jq23, xq23⟩ := hq23
                  have f42 := rgT (l1)
                  refine Ok.bind (sf_X7_readUnit (h0 := h0) hS n q23.2 l1 (by omega) jq23 (by omega) (by omega) (by omega)) (fun q25 hq25 => ?_)
                  obtain ⟨jq25, xq25⟩ := hq25
                  have f43 := lit_1
                  first | have f44 := adT (l3) (1) (by omega) (by omega) | have f44 := adT (l3) (1)
                  have f45 := rgT (l3 + 1)
                  exact ih q25 l1 q3.1 (l3 + 1) jq25  (by omega) (by omega) (by omega) (by omega) (by omega)
                · exact Ok.ret ⟨j, trivial⟩
            · have f46 := lit_43
              refine Ok.eq (fun c47 => ?_) (fun c47 => ?_)
              · refine Ok.bind (sf_X4_add (h0 := h0) n h 5 (-10) (by omega) j lw_5) (fun q40 hq40 => ?_)
                obtain ⟨jq40, xq40⟩ := hq40
                refine Ok.eq (fun c48 => ?_) (fun c48 => ?_)
                · have f49 := cR 3 2 0 5 (by decide) jq40
                  refine Ok.bind (sf_X7_take (h0 := h0) n q40 q3.1 (by omega) jq40 ) (fun q43 hq43 => ?_)
                  obtain ⟨jq43, xq43⟩ := hq43
                  have f50 := rgT (l1)
                  refine Ok.bind (sf_X7_readUnit (h0 := h0) hS n q43.2 l1 (by omega) jq43 (by omega) (by omega) (by omega)) (fun q45 hq45 => ?_)
                  obtain ⟨jq45, xq45⟩ := hq45
                  have f51 := lit_1
                  first | have f52 := adT (l3) (1) (by omega) (by omega) | have f52 := adT (l3) (1)
                  have f53 := rgT (l3 + 1)
                  exact ih q45 l1 q3.1 (l3 + 1) jq45  (by omega) (by omega) (by omega) (by omega) (by omega)
                · have f54 := lit_45
                  refine Ok.eq (fun c55 => ?_) (fun c55 => ?_)
                  · have f56 := cR 3 2 0 5 (by decide) jq40
                    refine Ok.bind (sf_X7_take (h0 := h0) n q40 q3.1 (by omega) jq40 ) (fun q48 hq48 => ?_)
                    obtain ⟨jq48, xq48⟩ := hq48
                    have f57 := rgT (l1)
                    refine Ok.bind (sf_X7_readUnit (h0 := h0) hS n q48.2 l1 (by omega) jq48 (by omega) (by omega) (by omega)) (fun q50 hq50 => ?_)
                    obtain ⟨jq50, xq50⟩ := hq50
                    have f58 := lit_1
                    first | have f59 := adT (l3) (1) (by omega) (by omega) | have f59 := adT (l3) (1)
                    have f60 := rgT (l3 + 1)
                    exact ih q50 l1 q3.1 (l3 + 1) jq50  (by omega) (by omega) (by omega) (by omega) (by omega)
                  · exact Ok.ret ⟨jq40, trivial⟩
              · refine Ok.bind (sf_X4_add (h0 := h0) n h 5 (-11) (by omega) j lw_5) (fun q28 hq28 => ?_)
                obtain ⟨jq28, xq28⟩ := hq28
                refine Ok.eq (fun c61 => ?_) (fun c61 => ?_)
                · have f62 := cR 3 2 0 5 (by decide) jq28
                  refine Ok.bind (sf_X7_take (h0 := h0) n q28 q3.1 (by omega) jq28 ) (fun q31 hq31 => ?_)
                  obtain ⟨jq31, xq31⟩ := hq31
                  have f63 := rgT (l1)
                  refine Ok.bind (sf_X7_readUnit (h0 := h0) hS n q31.2 l1 (by omega) jq31 (by omega) (by omega) (by omega)) (fun q33 hq33 => ?_)
                  obtain ⟨jq33, xq33⟩ := hq33
                  have f64 := lit_1
                  first | have f65 := adT (l3) (1) (by omega) (by omega) | have f65 := adT (l3) (1)
                  have f66 := rgT (l3 + 1)
                  exact ih q33 l1 q3.1 (l3 + 1) jq33  (by omega) (by omega) (by omega) (by omega) (by omega)
                · have f67 := lit_45
                  refine Ok.eq (fun c68 => ?_) (fun c68 => ?_)
                  · have f69 := cR 3 2 0 5 (by decide) jq28
                    refine Ok.bind (sf_X7_take (h0 := h0) n q28 q3.1 (by omega) jq28 ) (fun q36 hq36 => ?_)
                    obtain ⟨jq36, xq36⟩ := hq36
                    have f70 := rgT (l1)
                    refine Ok.bind (sf_X7_readUnit (h0 := h0) hS n q36.2 l1 (by omega) jq36 (by omega) (by omega) (by omega)) (fun q38 hq38 => ?_)
                    obtain ⟨jq38, xq38⟩ := hq38
                    have f71 := lit_1
                    first | have f72 := adT (l3) (1) (by omega) (by omega) | have f72 := adT (l3) (1)
                    have f73 := rgT (l3 + 1)
                    exact ih q38 l1 q3.1 (l3 + 1) jq38  (by omega) (by omega) (by omega) (by omega) (by omega)
                  · exact Ok.ret ⟨jq28, trivial⟩
      · exact Ok.ret ⟨j, trivial⟩
end
section
/-! the class comes to its end, 6 -/
set_option maxRecDepth 100000 in
set_option maxHeartbeats 4000000 in
theorem sf_X7_readSum {h0 : Hp} {e : Nat} {S : Nat → Hp → Int32 → Option Hp} (hS : ∀ (n : Nat) (h : Hp) (x1 : Int32), 17179869184 * (19 + e) ≤ n → J h0 h → 0 ≤ x1.toInt → x1.toInt ≤ 6 → 7 - x1.toInt ≤ e - 1 → Ok (S n h x1) (fun q => J h0 q ∧ True)) (n : Nat) (h : Hp) (x1 : Int32) (hn : 17179869184 * (20 + e) ≤ n) (j : J h0 h) (p0 : 0 ≤ x1.toInt) (p1 : x1.toInt ≤ 6) (p2 : 7 - x1.toInt ≤ e) : Ok (F_X7_readSum S n h x1) (fun q => J h0 q ∧ True) := by
  unfold F_X7_readSum
  have f1 := rgT (x1)
  refine Ok.bind (sf_X7_readUnit (h0 := h0) hS n h x1 (by omega) j (by omega) (by omega) (by omega)) (fun q61 hq61 => ?_)
  obtain ⟨jq61, xq61⟩ := hq61
  have f2 := lit_0
  exact sfW_X7_readSum_9 (h0 := h0) hS n q61 x1 0 0 jq61  (by omega) (by omega) (by omega) (by omega) (by omega)
theorem sfL_X7_readSum {h0 : Hp} : ∀ (l : Nat) (n : Nat) (h : Hp) (x1 : Int32), 17179869184 * (20 + l) ≤ n → J h0 h → 0 ≤ x1.toInt → x1.toInt ≤ 6 → 7 - x1.toInt ≤ l → Ok (L_X7_readSum l n h x1) (fun q => J h0 q ∧ True) := by
  intro l
  induction l with
  | zero => intro n h x1 hn j p0 p1 p2; exfalso; omega
  | succ l ih =>
    intro n h x1 hn j p0 p1 p2
    show Ok (F_X7_readSum (L_X7_readSum l) n h x1) _
    exact sf_X7_readSum (h0 := h0) (e := l + 1) (fun n h x1 hn j q0 q1 q2 => ih n h x1 (by omega) j q0 q1 (by omega)) n h x1 (by omega) j p0 p1 (by omega)
theorem sf_X7_readSumT {h0 : Hp} (n : Nat) (h : Hp) (x1 : Int32) (hn : 584115552256 ≤ n) (j : J h0 h) (p0 : x1.toInt = 0) : Ok (F_X7_readSumT n h x1) (fun q => J h0 q ∧ True) := by
  unfold F_X7_readSumT
  exact sfL_X7_readSum 9 n h x1 (by omega) j (by omega) (by omega) (by omega)
set_option maxRecDepth 100000 in
set_option maxHeartbeats 4000000 in
theorem sf_X4_addLess {h0 : Hp} (n : Nat) (h : Hp) (a : Nat) (hn : 1 ≤ n) (j : J h0 h) (hs : IsLw a) : Ok (F_X4_addLess n h a) (fun q => J h0 q.2 ∧ True) := by
  unfold F_X4_addLess
  refine Ok.bind (sf_X4_add (h0 := h0) n h a (-14) (by omega) j hs) (fun q1 hq1 => ?_)
  obtain ⟨jq1, xq1⟩ := hq1
  refine Ok.bind (sf_X4_add (h0 := h0) n q1 a 0 (by omega) jq1 hs) (fun q3 hq3 => ?_)
  obtain ⟨jq3, xq3⟩ := hq3
  exact Ok.ret ⟨jq3, trivial⟩
set_option maxRecDepth 100000 in
set_option maxHeartbeats 4000000 in
theorem sf_X4_elseHere {h0 : Hp} (n : Nat) (h : Hp) (a : Nat) (x1 : Int32) (hn : 1 ≤ n) (j : J h0 h) (hs : IsLw a) : Ok (F_X4_elseHere n h a x1) (fun q => J h0 q ∧ True) := by
  unfold F_X4_elseHere
  have f1 := rgT (x1)
  have f2 := lit_0
  refine Ok.lt (fun c3 => ?_) (fun c3 => ?_)
  · exact Ok.ret ⟨j, trivial⟩
  · have f4 := lit_404
    refine Ok.le (fun c5 => ?_) (fun c5 => ?_)
    · exact Ok.ret ⟨j, trivial⟩
    · refine Ok.chk (ixT (by omega) (by omega)) (fun c6 => ?_)
      generalize eg7 : wrI h (a + 1) (Int32.toNatClampNeg x1) (hi h a 3) = g7
      have jg7 : J h0 g7 := JwI eg7 j (ncO_nc (lwO hs).2.1)
      exact Ok.ret ⟨jg7, trivial⟩
set_option maxRecDepth 100000 in
set_option maxHeartbeats 4000000 in
theorem sfW_X7_readLaw_20 {h0 : Hp} : ∀ (n : Nat), (∀ (h : Hp) (l1 : Int32) (l2 : Int32), J h0 h → (584115552256 : Int) < n → (584115552256 : Int) + (6 - l2.toInt) < n → Ok (W_X7_readLaw n 20 h l1 l2) (fun q => J h0 q ∧ True)) := by
  intro n
  induction n with
  | zero => intro h l1 l2 j hB hM; exfalso; omega
  | succ n ih =>
    intro h l1 l2 j hB hM
    rw [u_X7_readLaw]
    refine Ok.pos rfl ?_
    have f1 := rgT (hi h 2 5)
    have f2 := lit_0
    refine Ok.eq (fun c3 => ?_) (fun c3 => ?_)
    · refine Ok.bind (sf_X7_kind (h0 := h0) n h  (by omega) j ) (fun q6 hq6 => ?_)
      obtain ⟨eq6, xq6⟩ := hq6
      rw [eq6]
      have f4 := rgT (q6.1)
      have f5 := lit_19
      refine Ok.eq (fun c6 => ?_) (fun c6 => ?_)
      · have f7 := lit_4
        have f8 := rgT (l2)
        refine Ok.lt (fun c9 => ?_) (fun c9 => ?_)
        · refine Ok.bind (sf_X7_readSumT (h0 := h0) n h 0 (by omega) j (by omega)) (fun q14 hq14 => ?_)
          obtain ⟨jq14, xq14⟩ := hq14
          refine Ok.bind (sf_X4_add (h0 := h0) n q14 5 (-15) (by omega) jq14 lw_5) (fun q16 hq16 => ?_)
          obtain ⟨jq16, xq16⟩ := hq16
          exact Ok.ret ⟨jq16, trivial⟩
        · refine Ok.lt (fun c10 => ?_) (fun c10 => ?_)
          · have f11 := cR 3 2 0 5 (by decide) j
            refine Ok.bind (sf_X7_take (h0 := h0) n h 19 (by omega) j ) (fun q19 hq19 => ?_)
            obtain ⟨jq19, xq19⟩ := hq19
            refine Ok.bind (sf_X7_readSumT (h0 := h0) n q19.2 0 (by omega) jq19 (by omega)) (fun q21 hq21 => ?_)
            obtain ⟨jq21, xq21⟩ := hq21
            have f12 := cR 3 2 0 5 (by decide) jq21
            refine Ok.bind (sf_X7_take (h0 := h0) n q21 60 (by omega) jq21 ) (fun q23 hq23 => ?_)
            obtain ⟨jq23, xq23⟩ := hq23
            refine Ok.bind (sf_X7_readSumT (h0 := h0) n q23.2 0 (by omega) jq23 (by omega)) (fun q25 hq25 => ?_)
            obtain ⟨jq25, xq25⟩ := hq25
            have f13 := cR 3 2 0 5 (by decide) jq25
            refine Ok.bind (sf_X7_take (h0 := h0) n q25 20 (by omega) jq25 ) (fun q27 hq27 => ?_)
            obtain ⟨jq27, xq27⟩ := hq27
            refine Ok.bind (sf_X4_addLess (h0 := h0) n q27.2 5 (by omega) jq27 lw_5) (fun q29 hq29 => ?_)
            obtain ⟨jq29, xq29⟩ := hq29
            refine Ok.bind (sf_X7_readSumT (h0 := h0) n q29.2 0 (by omega) jq29 (by omega)) (fun q31 hq31 => ?_)
            obtain ⟨jq31, xq31⟩ := hq31
            have f14 := cR 3 2 0 5 (by decide) jq31
            refine Ok.bind (sf_X7_take (h0 := h0) n q31 21 (by omega) jq31 ) (fun q33 hq33 => ?_)
            obtain ⟨jq33, xq33⟩ := hq33
            refine Ok.bind (sf_X4_add (h0 := h0) n q33.2 5 (-15) (by omega) jq33 lw_5) (fun q35 hq35 => ?_)
            obtain ⟨jq35, xq35⟩ := hq35
            refine Ok.bind (sf_X4_elseHere (h0 := h0) n q35 5 q29.1 (by omega) jq35 lw_5) (fun q37 hq37 => ?_)
            obtain ⟨jq37, xq37⟩ := hq37
            have f15 := lit_1
            first | have f16 := adT (l2) (1) (by omega) (by omega) | have f16 := adT (l2) (1)
            have f17 := rgT (l2 + 1)
            exact ih q37 l1 (l2 + 1) jq37   (by omega) (by omega)
          · have f18 := lit_2
            have f19 := cR 3 2 0 5 (by decide) j
            refine Ok.bind (sf_X7_stop (h0 := h0) n h 2 (by omega) j ) (fun q39 hq39 => ?_)
            obtain ⟨jq39, xq39⟩ := hq39
            have f20 := cR 3 2 0 5 (by decide) jq39
            refine Ok.bind (sf_X7_take (h0 := h0) n q39 19 (by omega) jq39 ) (fun q41 hq41 => ?_)
            obtain ⟨jq41, xq41⟩ := hq41
            refine Ok.bind (sf_X7_readSumT (h0 := h0) n q41.2 0 (by omega) jq41 (by omega)) (fun q43 hq43 => ?_)
            obtain ⟨jq43, xq43⟩ := hq43
            have f21 := cR 3 2 0 5 (by decide) jq43
            refine Ok.bind (sf_X7_take (h0 := h0) n q43 60 (by omega) jq43 ) (fun q45 hq45 => ?_)
            obtain ⟨jq45, xq45⟩ := hq45
            refine Ok.bind (sf_X7_readSumT (h0 := h0) n q45.2 0 (by omega) jq45 (by omega)) (fun q47 hq47 => ?_)
            obtain ⟨jq47, xq47⟩ := hq47
            have f22 := cR 3 2 0 5 (by decide) jq47
            refine Ok.bind (sf_X7_take (h0 := h0) n q47 20 (by omega) jq47 ) (fun q49 hq49 => ?_)
            obtain ⟨jq49, xq49⟩ := hq49
            refine Ok.bind (sf_X4_addLess (h0 := h0) n q49.2 5 (by omega) jq49 lw_5) (fun q51 hq51 => ?_)
            obtain ⟨jq51, xq51⟩ := hq51
            refine Ok.bind (sf_X7_readSumT (h0 := h0) n q51.2 0 (by omega) jq51 (by omega)) (fun q53 hq53 => ?_)
            obtain ⟨jq53, xq53⟩ := hq53
            have f23 := cR 3 2 0 5 (by decide) jq53
            refine Ok.bind (sf_X7_take (h0 := h0) n q53 21 (by omega) jq53 ) (fun q55 hq55 => ?_)
            obtain ⟨jq55, xq55⟩ := hq55
            refine Ok.bind (sf_X4_add (h0 := h0) n q55.2 5 (-15) (by omega) jq55 lw_5) (fun q57 hq57 => ?_)
            obtain ⟨jq57, xq57⟩ := hq57
            refine Ok.bind (sf_X4_elseHere (h0 := h0) n q57 5 q51.1 (by omega) jq57 lw_5) (fun q59 hq59 => ?_)
            obtain ⟨jq59, xq59⟩ := hq59
            have f24 := lit_1
            first | have f25 := adT (l2) (1) (by omega) (by omega) | have f25 := adT (l2) (1)
            have f26 := rgT (l2 + 1)
            exact ih q59 l1 (l2 + 1) jq59   (by omega) (by omega)
      · refine Ok.bind (sf_X7_readSumT (h0 := h0) n h 0 (by omega) j (by omega)) (fun q9 hq9 => ?_)
        obtain ⟨jq9, xq9⟩ := hq9
        refine Ok.bind (sf_X4_add (h0 := h0) n q9 5 (-15) (by omega) jq9 lw_5) (fun q11 hq11 => ?_)
        obtain ⟨jq11, xq11⟩ := hq11
        exact Ok.ret ⟨jq11, trivial⟩
    · refine Ok.bind (sf_X7_readSumT (h0 := h0) n h 0 (by omega) j (by omega)) (fun q2 hq2 => ?_)
      obtain ⟨jq2, xq2⟩ := hq2
      refine Ok.bind (sf_X4_add (h0 := h0) n q2 5 (-15) (by omega) jq2 lw_5) (fun q4 hq4 => ?_)
      obtain ⟨jq4, xq4⟩ := hq4
      exact Ok.ret ⟨jq4, trivial⟩
set_option maxRecDepth 100000 in
set_option maxHeartbeats 4000000 in
theorem sf_X7_readLaw {h0 : Hp} (n : Nat) (h : Hp) (x1 : Int32) (hn : 601295421440 ≤ n) (j : J h0 h) : Ok (F_X7_readLaw n h x1) (fun q => J h0 q ∧ True) := by
  unfold F_X7_readLaw
  have f1 := cR 3 2 0 5 (by decide) j
  refine Ok.bind (sf_X7_take (h0 := h0) n h 61 (by omega) j ) (fun q61 hq61 => ?_)
  obtain ⟨jq61, xq61⟩ := hq61
  refine Ok.bind (sf_X4_begin (h0 := h0) n q61.2 5 x1 (by omega) jq61 lw_5) (fun q63 hq63 => ?_)
  obtain ⟨jq63, xq63⟩ := hq63
  have f2 := lit_0
  exact sfW_X7_readLaw_20 (h0 := h0) n q63 x1 0 jq63   (by omega) (by omega)
set_option maxRecDepth 100000 in
set_option maxHeartbeats 4000000 in
theorem sf_X7_readTell {h0 : Hp} (n : Nat) (h : Hp) (x1 : Int32) (hn : 601295421440 ≤ n) (j : J h0 h) : Ok (F_X7_readTell n h x1) (fun q => J h0 q ∧ True) := by
  unfold F_X7_readTell
  have f1 := rgT (x1)
  have f2 := lit_9
  refine Ok.eq (fun c3 => ?_) (fun c3 => ?_)
  · refine Ok.bind (sf_X7_readLawn (h0 := h0) n h  (by omega) j ) (fun q2 hq2 => ?_)
    obtain ⟨jq2, xq2⟩ := hq2
    have f4 := cR 3 2 0 5 (by decide) jq2
    refine Ok.bind (sf_X7_take (h0 := h0) n q2 59 (by omega) jq2 ) (fun q4 hq4 => ?_)
    obtain ⟨jq4, xq4⟩ := hq4
    exact Ok.ret ⟨jq4, trivial⟩
  · have f5 := lit_10
    refine Ok.eq (fun c6 => ?_) (fun c6 => ?_)
    · refine Ok.bind (sf_X7_readTune (h0 := h0) n h  (by omega) j ) (fun q7 hq7 => ?_)
      obtain ⟨jq7, xq7⟩ := hq7
      have f7 := cR 3 2 0 5 (by decide) jq7
      refine Ok.bind (sf_X7_take (h0 := h0) n q7 59 (by omega) jq7 ) (fun q9 hq9 => ?_)
      obtain ⟨jq9, xq9⟩ := hq9
      exact Ok.ret ⟨jq9, trivial⟩
    · have f8 := lit_11
      refine Ok.eq (fun c9 => ?_) (fun c9 => ?_)
      · refine Ok.bind (sf_X7_readGoer (h0 := h0) n h  (by omega) j ) (fun q12 hq12 => ?_)
        obtain ⟨jq12, xq12⟩ := hq12
        have f10 := cR 3 2 0 5 (by decide) jq12
        refine Ok.bind (sf_X7_take (h0 := h0) n q12 59 (by omega) jq12 ) (fun q14 hq14 => ?_)
        obtain ⟨jq14, xq14⟩ := hq14
        exact Ok.ret ⟨jq14, trivial⟩
      · have f11 := lit_12
        refine Ok.eq (fun c12 => ?_) (fun c12 => ?_)
        · refine Ok.bind (sf_X7_readRope (h0 := h0) n h  (by omega) j ) (fun q17 hq17 => ?_)
          obtain ⟨jq17, xq17⟩ := hq17
          have f13 := cR 3 2 0 5 (by decide) jq17
          refine Ok.bind (sf_X7_take (h0 := h0) n q17 59 (by omega) jq17 ) (fun q19 hq19 => ?_)
          obtain ⟨jq19, xq19⟩ := hq19
          exact Ok.ret ⟨jq19, trivial⟩
        · have f14 := lit_13
          refine Ok.eq (fun c15 => ?_) (fun c15 => ?_)
          · refine Ok.lt (fun c16 => ?_) (fun c16 => ?_)
            · have f17 := lit_1
              have f18 := cR 3 2 0 5 (by decide) j
              refine Ok.bind (sf_X7_stop (h0 := h0) n h 1 (by omega) j ) (fun q23 hq23 => ?_)
              obtain ⟨jq23, xq23⟩ := hq23
              exact Ok.ret ⟨jq23, trivial⟩
            · have f19 := lit_16
              refine Ok.le (fun c20 => ?_) (fun c20 => ?_)
              · have f21 := cR 3 2 0 5 (by decide) j
                refine Ok.bind (sf_X7_take (h0 := h0) n h x1 (by omega) j ) (fun q26 hq26 => ?_)
                obtain ⟨jq26, xq26⟩ := hq26
                refine Ok.bind (sf_X7_readLaw (h0 := h0) n q26.2 (x1 - 13) (by omega) jq26 ) (fun q28 hq28 => ?_)
                obtain ⟨jq28, xq28⟩ := hq28
                have f22 := cR 3 2 0 5 (by decide) jq28
                refine Ok.bind (sf_X7_take (h0 := h0) n q28 59 (by omega) jq28 ) (fun q30 hq30 => ?_)
                obtain ⟨jq30, xq30⟩ := hq30
                exact Ok.ret ⟨jq30, trivial⟩
              · have f23 := lit_1
                have f24 := cR 3 2 0 5 (by decide) j
                refine Ok.bind (sf_X7_stop (h0 := h0) n h 1 (by omega) j ) (fun q32 hq32 => ?_)
                obtain ⟨jq32, xq32⟩ := hq32
                exact Ok.ret ⟨jq32, trivial⟩
          · have f25 := lit_14
            refine Ok.eq (fun c26 => ?_) (fun c26 => ?_)
            · refine Ok.lt (fun c27 => ?_) (fun c27 => ?_)
              · have f28 := lit_1
                have f29 := cR 3 2 0 5 (by decide) j
                refine Ok.bind (sf_X7_stop (h0 := h0) n h 1 (by omega) j ) (fun q36 hq36 => ?_)
                obtain ⟨jq36, xq36⟩ := hq36
                exact Ok.ret ⟨jq36, trivial⟩
              · have f30 := lit_16
                refine Ok.le (fun c31 => ?_) (fun c31 => ?_)
                · have f32 := cR 3 2 0 5 (by decide) j
                  refine Ok.bind (sf_X7_take (h0 := h0) n h x1 (by omega) j ) (fun q39 hq39 => ?_)
                  obtain ⟨jq39, xq39⟩ := hq39
                  refine Ok.bind (sf_X7_readLaw (h0 := h0) n q39.2 (x1 - 13) (by omega) jq39 ) (fun q41 hq41 => ?_)
                  obtain ⟨jq41, xq41⟩ := hq41
                  have f33 := cR 3 2 0 5 (by decide) jq41
                  refine Ok.bind (sf_X7_take (h0 := h0) n q41 59 (by omega) jq41 ) (fun q43 hq43 => ?_)
                  obtain ⟨jq43, xq43⟩ := hq43
                  exact Ok.ret ⟨jq43, trivial⟩
                · have f34 := lit_1
                  have f35 := cR 3 2 0 5 (by decide) j
                  refine Ok.bind (sf_X7_stop (h0 := h0) n h 1 (by omega) j ) (fun q45 hq45 => ?_)
                  obtain ⟨jq45, xq45⟩ := hq45
                  exact Ok.ret ⟨jq45, trivial⟩
            · have f36 := lit_15
              refine Ok.eq (fun c37 => ?_) (fun c37 => ?_)
              · refine Ok.lt (fun c38 => ?_) (fun c38 => ?_)
                · have f39 := lit_1
                  have f40 := cR 3 2 0 5 (by decide) j
                  refine Ok.bind (sf_X7_stop (h0 := h0) n h 1 (by omega) j ) (fun q49 hq49 => ?_)
                  obtain ⟨jq49, xq49⟩ := hq49
                  exact Ok.ret ⟨jq49, trivial⟩
                · have f41 := lit_16
                  refine Ok.le (fun c42 => ?_) (fun c42 => ?_)
                  · have f43 := cR 3 2 0 5 (by decide) j
                    refine Ok.bind (sf_X7_take (h0 := h0) n h x1 (by omega) j ) (fun q52 hq52 => ?_)
                    obtain ⟨jq52, xq52⟩ := hq52
                    refine Ok.bind (sf_X7_readLaw (h0 := h0) n q52.2 (x1 - 13) (by omega) jq52 ) (fun q54 hq54 => ?_)
                    obtain ⟨jq54, xq54⟩ := hq54
                    have f44 := cR 3 2 0 5 (by decide) jq54
                    refine Ok.bind (sf_X7_take (h0 := h0) n q54 59 (by omega) jq54 ) (fun q56 hq56 => ?_)
                    obtain ⟨jq56, xq56⟩ := hq56
                    exact Ok.ret ⟨jq56, trivial⟩
                  · have f45 := lit_1
                    have f46 := cR 3 2 0 5 (by decide) j
                    refine Ok.bind (sf_X7_stop (h0 := h0) n h 1 (by omega) j ) (fun q58 hq58 => ?_)
                    obtain ⟨jq58, xq58⟩ := hq58
                    exact Ok.ret ⟨jq58, trivial⟩
              · have f47 := lit_16
                refine Ok.eq (fun c48 => ?_) (fun c48 => ?_)
                · refine Ok.lt (fun c49 => ?_) (fun c49 => ?_)
                  · have f50 := lit_1
                    have f51 := cR 3 2 0 5 (by decide) j
                    refine Ok.bind (sf_X7_stop (h0 := h0) n h 1 (by omega) j ) (fun q62 hq62 => ?_)
                    obtain ⟨jq62, xq62⟩ := hq62
                    exact Ok.ret ⟨jq62, trivial⟩
                  · refine Ok.le (fun c52 => ?_) (fun c52 => ?_)
                    · have f53 := cR 3 2 0 5 (by decide) j
                      refine Ok.bind (sf_X7_take (h0 := h0) n h x1 (by omega) j ) (fun q65 hq65 => ?_)
                      obtain ⟨jq65, xq65⟩ := hq65
                      refine Ok.bind (sf_X7_readLaw (h0 := h0) n q65.2 (x1 - 13) (by omega) jq65 ) (fun q67 hq67 => ?_)
                      obtain ⟨jq67, xq67⟩ := hq67
                      have f54 := cR 3 2 0 5 (by decide) jq67
                      refine Ok.bind (sf_X7_take (h0 := h0) n q67 59 (by omega) jq67 ) (fun q69 hq69 => ?_)
                      obtain ⟨jq69, xq69⟩ := hq69
                      exact Ok.ret ⟨jq69, trivial⟩
                    · have f55 := lit_1
                      have f56 := cR 3 2 0 5 (by decide) j
                      refine Ok.bind (sf_X7_stop (h0 := h0) n h 1 (by omega) j ) (fun q71 hq71 => ?_)
                      obtain ⟨jq71, xq71⟩ := hq71
                      exact Ok.ret ⟨jq71, trivial⟩
                · have f57 := lit_17
                  refine Ok.eq (fun c58 => ?_) (fun c58 => ?_)
                  · have f59 := cR 3 2 0 5 (by decide) j
                    refine Ok.bind (sf_X7_take (h0 := h0) n h x1 (by omega) j ) (fun q74 hq74 => ?_)
                    obtain ⟨jq74, xq74⟩ := hq74
                    have f60 := cR 3 2 0 5 (by decide) jq74
                    refine Ok.bind (sf_X7_takeNumber (h0 := h0) n q74.2 0 100 (by omega) jq74 ) (fun q76 hq76 => ?_)
                    obtain ⟨jq76, xq76⟩ := hq76
                    generalize eg61 : wrI q76.2 3 3 q76.1 = g61
                    have jg61 : J h0 g61 := JwI eg61 jq76 (by decide)
                    have f62 := congrArg Int32.toInt (hiK eg61 3 2 (by decide))
                    have f63 := cR 3 2 0 5 (by decide) jq76
                    have f64 := congrArg Int32.toInt (hiA eg61 2 5 (by decide))
                    refine Ok.bind (sf_X7_take (h0 := h0) n g61 59 (by omega) jg61 ) (fun q78 hq78 => ?_)
                    obtain ⟨jq78, xq78⟩ := hq78
                    exact Ok.ret ⟨jq78, trivial⟩
                  · have f65 := lit_18
                    refine Ok.eq (fun c66 => ?_) (fun c66 => ?_)
                    · have f67 := cR 3 2 0 5 (by decide) j
                      refine Ok.bind (sf_X7_take (h0 := h0) n h x1 (by omega) j ) (fun q81 hq81 => ?_)
                      obtain ⟨jq81, xq81⟩ := hq81
                      have f68 := cR 3 2 0 5 (by decide) jq81
                      refine Ok.bind (sf_X7_takeNumber (h0 := h0) n q81.2 0 9999 (by omega) jq81 ) (fun q83 hq83 => ?_)
                      obtain ⟨jq83, xq83⟩ := hq83
                      generalize eg69 : wrI q83.2 3 4 q83.1 = g69
                      have jg69 : J h0 g69 := JwI eg69 jq83 (by decide)
                      have f70 := congrArg Int32.toInt (hiK eg69 3 2 (by decide))
                      have f71 := cR 3 2 0 5 (by decide) jq83
                      have f72 := congrArg Int32.toInt (hiA eg69 2 5 (by decide))
                      refine Ok.bind (sf_X7_take (h0 := h0) n g69 59 (by omega) jg69 ) (fun q85 hq85 => ?_)
                      obtain ⟨jq85, xq85⟩ := hq85
                      exact Ok.ret ⟨jq85, trivial⟩
                    · refine Ok.lt (fun c73 => ?_) (fun c73 => ?_)
                      · have f74 := lit_1
                        have f75 := cR 3 2 0 5 (by decide) j
                        refine Ok.bind (sf_X7_stop (h0 := h0) n h 1 (by omega) j ) (fun q88 hq88 => ?_)
                        obtain ⟨jq88, xq88⟩ := hq88
                        exact Ok.ret ⟨jq88, trivial⟩
                      · refine Ok.le (fun c76 => ?_) (fun c76 => ?_)
                        · have f77 := cR 3 2 0 5 (by decide) j
                          refine Ok.bind (sf_X7_take (h0 := h0) n h x1 (by omega) j ) (fun q91 hq91 => ?_)
                          obtain ⟨jq91, xq91⟩ := hq91
                          refine Ok.bind (sf_X7_readLaw (h0 := h0) n q91.2 (x1 - 13) (by omega) jq91 ) (fun q93 hq93 => ?_)
                          obtain ⟨jq93, xq93⟩ := hq93
                          have f78 := cR 3 2 0 5 (by decide) jq93
                          refine Ok.bind (sf_X7_take (h0 := h0) n q93 59 (by omega) jq93 ) (fun q95 hq95 => ?_)
                          obtain ⟨jq95, xq95⟩ := hq95
                          exact Ok.ret ⟨jq95, trivial⟩
                        · have f79 := lit_1
                          have f80 := cR 3 2 0 5 (by decide) j
                          refine Ok.bind (sf_X7_stop (h0 := h0) n h 1 (by omega) j ) (fun q97 hq97 => ?_)
                          obtain ⟨jq97, xq97⟩ := hq97
                          exact Ok.ret ⟨jq97, trivial⟩
end
section
/-! the class comes to its end, 7 -/
set_option maxRecDepth 100000 in
set_option maxHeartbeats 4000000 in
theorem sfW_X7_readText_14 {h0 : Hp} : ∀ (n : Nat), (∀ (h : Hp) (l1 : Int32) (l2 : Int32), J h0 h → (601295421440 : Int) < n → (601295421440 : Int) + (401 - l2.toInt) < n → Ok (W_X7_readText n 14 h l1 l2) (fun q => J h0 q.2 ∧ True)) := by
  intro n
  induction n with
  | zero => intro h l1 l2 j hB hM; exfalso; omega
  | succ n ih =>
    intro h l1 l2 j hB hM
    rw [u_X7_readText]
    refine Ok.pos rfl ?_
    have f1 := lit_400
    have f2 := rgT (l2)
    refine Ok.lt (fun c3 => ?_) (fun c3 => ?_)
    · have f4 := rgT (hi h 2 5)
      have f5 := lit_0
      refine Ok.eq (fun c6 => ?_) (fun c6 => ?_)
      · refine Ok.bind (sf_X7_layOut (h0 := h0) n h l1 (by omega) j ) (fun q3 hq3 => ?_)
        obtain ⟨jq3, xq3⟩ := hq3
        generalize eg7 : wrI q3 2 2 (hi q3 2 7) = g7
        have jg7 : J h0 g7 := JwI eg7 jq3 (by decide)
        exact Ok.ret ⟨jg7, trivial⟩
      · refine Ok.bind (sf_X9_placeOf (h0 := h0) n h (hi h 2 4) (by omega) j ) (fun q5 hq5 => ?_)
        obtain ⟨eq5, xq5⟩ := hq5
        rw [eq5]
        generalize eg8 : wrI h 2 2 q5.1 = g8
        have jg8 : J h0 g8 := JwI eg8 j (by decide)
        exact Ok.ret ⟨jg8, trivial⟩
    · have f9 := rgT (hi h 2 5)
      have f10 := lit_0
      refine Ok.eq (fun c11 => ?_) (fun c11 => ?_)
      · refine Ok.bind (sf_X7_kind (h0 := h0) n h  (by omega) j ) (fun q13 hq13 => ?_)
        obtain ⟨eq13, xq13⟩ := hq13
        rw [eq13]
        have f12 := rgT (q13.1)
        have f13 := lit_32
        refine Ok.eq (fun c14 => ?_) (fun c14 => ?_)
        · refine Ok.eq (fun c15 => ?_) (fun c15 => ?_)
          · refine Ok.bind (sf_X7_layOut (h0 := h0) n h l1 (by omega) j ) (fun q17 hq17 => ?_)
            obtain ⟨jq17, xq17⟩ := hq17
            generalize eg16 : wrI q17 2 2 (hi q17 2 7) = g16
            have jg16 : J h0 g16 := JwI eg16 jq17 (by decide)
            exact Ok.ret ⟨jg16, trivial⟩
          · refine Ok.bind (sf_X9_placeOf (h0 := h0) n h (hi h 2 4) (by omega) j ) (fun q19 hq19 => ?_)
            obtain ⟨eq19, xq19⟩ := hq19
            rw [eq19]
            generalize eg17 : wrI h 2 2 q19.1 = g17
            have jg17 : J h0 g17 := JwI eg17 j (by decide)
            exact Ok.ret ⟨jg17, trivial⟩
        · refine Ok.bind (sf_X7_kind (h0 := h0) n h  (by omega) j ) (fun q21 hq21 => ?_)
          obtain ⟨eq21, xq21⟩ := hq21
          rw [eq21]
          refine Ok.bind (sf_X7_readTell (h0 := h0) n h q21.1 (by omega) j ) (fun q23 hq23 => ?_)
          obtain ⟨jq23, xq23⟩ := hq23
          have f18 := lit_1
          first | have f19 := adT (l2) (1) (by omega) (by omega) | have f19 := adT (l2) (1)
          have f20 := rgT (l2 + 1)
          exact ih q23 l1 (l2 + 1) jq23   (by omega) (by omega)
      · refine Ok.eq (fun c21 => ?_) (fun c21 => ?_)
        · refine Ok.bind (sf_X7_layOut (h0 := h0) n h l1 (by omega) j ) (fun q9 hq9 => ?_)
          obtain ⟨jq9, xq9⟩ := hq9
          generalize eg22 : wrI q9 2 2 (hi q9 2 7) = g22
          have jg22 : J h0 g22 := JwI eg22 jq9 (by decide)
          exact Ok.ret ⟨jg22, trivial⟩
        · refine Ok.bind (sf_X9_placeOf (h0 := h0) n h (hi h 2 4) (by omega) j ) (fun q11 hq11 => ?_)
          obtain ⟨eq11, xq11⟩ := hq11
          rw [eq11]
          generalize eg23 : wrI h 2 2 q11.1 = g23
          have jg23 : J h0 g23 := JwI eg23 j (by decide)
          exact Ok.ret ⟨jg23, trivial⟩
set_option maxRecDepth 100000 in
set_option maxHeartbeats 4000000 in
theorem sf_X7_readText {h0 : Hp} (n : Nat) (h : Hp) (x1 : Int32) (hn : 618475290624 ≤ n) (j : J h0 h) : Ok (F_X7_readText n h x1) (fun q => J h0 q.2 ∧ True) := by
  unfold F_X7_readText
  refine Ok.bind (sf_X7_clear (h0 := h0) n h  (by omega) j ) (fun q25 hq25 => ?_)
  obtain ⟨jq25, xq25⟩ := hq25
  refine Ok.bind (sf_X9_scan (h0 := h0) n q25 x1 (by omega) jq25 ) (fun q27 hq27 => ?_)
  obtain ⟨jq27, xq27⟩ := hq27
  have f1 := lit_0
  exact sfW_X7_readText_14 (h0 := h0) n q27 x1 0 jq27   (by omega) (by omega)
set_option maxRecDepth 100000 in
set_option maxHeartbeats 4000000 in
theorem sfW_X11_everMoved_4 {h0 : Hp} : ∀ (n : Nat), (∀ (h : Hp) (l1 : Int32) (l2 : Int32), J h0 h → 0 ≤ l2.toInt → (1 : Int) < n → (1 : Int) + (5 - l2.toInt) < n → Ok (W_X11_everMoved n 4 h l1 l2) (fun q => q.2 = h ∧ True)) := by
  intro n
  induction n with
  | zero => intro h l1 l2 j i0 hB hM; exfalso; omega
  | succ n ih =>
    intro h l1 l2 j i0 hB hM
    rw [u_X11_everMoved]
    refine Ok.pos rfl ?_
    have f1 := cR 23 2 0 5 (by decide) j
    have f2 := rgT (hi h 23 2)
    have f3 := rgT (l2)
    refine Ok.le (fun c4 => ?_) (fun c4 => ?_)
    · exact Ok.ret ⟨rfl, trivial⟩
    · have f5 := lit_5
      refine Ok.le (fun c6 => ?_) (fun c6 => ?_)
      · exact Ok.ret ⟨rfl, trivial⟩
      · refine Ok.chk (ixT (by omega) (by omega)) (fun c7 => ?_)
        have f8 := rgT (hi h 33 (Int32.toNatClampNeg l2))
        have f9 := lit_0
        refine Ok.le (fun c10 => ?_) (fun c10 => ?_)
        · have f11 := lit_1
          first | have f12 := adT (l2) (1) (by omega) (by omega) | have f12 := adT (l2) (1)
          have f13 := rgT (l2 + 1)
          exact ih h l1 (l2 + 1) j  (by omega) (by omega) (by omega)
        · have f14 := lit_1
          first | have f15 := adT (l2) (1) (by omega) (by omega) | have f15 := adT (l2) (1)
          have f16 := rgT (l2 + 1)
          exact ih h ((l1 : Int32) ||| (((1 : Int32) <<< ((l2 : Int32) &&& 31)) : Int32)) (l2 + 1) j  (by omega) (by omega) (by omega)
set_option maxRecDepth 100000 in
set_option maxHeartbeats 4000000 in
theorem sf_X11_everMoved {h0 : Hp} (n : Nat) (h : Hp) (hn : 17179869185 ≤ n) (j : J h0 h) : Ok (F_X11_everMoved n h) (fun q => q.2 = h ∧ True) := by
  unfold F_X11_everMoved
  have f1 := lit_0
  exact sfW_X11_everMoved_4 (h0 := h0) n h 0 0 j  (by omega) (by omega) (by omega)
set_option maxRecDepth 100000 in
set_option maxHeartbeats 4000000 in
theorem sf_X11_isNoughtOrOne {h0 : Hp} (n : Nat) (h : Hp) (x1 : Int32) (hn : 1 ≤ n) (j : J h0 h) : Ok (F_X11_isNoughtOrOne n h x1) (fun q => q.2 = h ∧ True) := by
  unfold F_X11_isNoughtOrOne
  have f1 := rgT (x1)
  have f2 := lit_0
  refine Ok.eq (fun c3 => ?_) (fun c3 => ?_)
  · exact Ok.ret ⟨rfl, trivial⟩
  · have f4 := lit_1
    refine Ok.eq (fun c5 => ?_) (fun c5 => ?_)
    · exact Ok.ret ⟨rfl, trivial⟩
    · exact Ok.ret ⟨rfl, trivial⟩
set_option maxRecDepth 100000 in
set_option maxHeartbeats 4000000 in
theorem sf_X11_isSpan {h0 : Hp} (n : Nat) (h : Hp) (x1 : Int32) (hn : 1 ≤ n) (j : J h0 h) : Ok (F_X11_isSpan n h x1) (fun q => q.2 = h ∧ (q.1.toInt ≠ 0 → 0 ≤ x1.toInt ∧ x1.toInt ≤ 100)) := by
  unfold F_X11_isSpan
  have f1 := rgT (x1)
  have f2 := lit_0
  refine Ok.lt (fun c3 => ?_) (fun c3 => ?_)
  · refine Ok.ret ⟨rfl, ?_⟩
    show (((0) : Int32).toInt ≠ 0 → 0 ≤ x1.toInt ∧ x1.toInt ≤ 100)
    omega
  · have f4 := lit_100
    refine Ok.lt (fun c5 => ?_) (fun c5 => ?_)
    · refine Ok.ret ⟨rfl, ?_⟩
      show (((0) : Int32).toInt ≠ 0 → 0 ≤ x1.toInt ∧ x1.toInt ≤ 100)
      omega
    · have f6 := lit_1
      refine Ok.ret ⟨rfl, ?_⟩
      show (((1) : Int32).toInt ≠ 0 → 0 ≤ x1.toInt ∧ x1.toInt ≤ 100)
      omega
set_option maxRecDepth 100000 in
theorem sf_J6_bitCount_0f7a4 {h0 : Hp} (n : Nat) (h : Hp) (x1 : Int32) (hn : 1 ≤ n) (j : J h0 h) : Ok (F_J6_bitCount_0f7a4 n h x1) (fun q => q.2 = h ∧ (0 ≤ q.1.toInt ∧ q.1.toInt ≤ 63)) := by
  unfold F_J6_bitCount_0f7a4
  refine Ok.ret ⟨rfl, ?_⟩
  exact and_rg _ 63 63 (by decide) (by decide)
set_option maxRecDepth 100000 in
set_option maxHeartbeats 4000000 in
theorem sf_X11_lowest {h0 : Hp} (n : Nat) (h : Hp) (x1 : Int32) (hn : 1 ≤ n) (j : J h0 h) : Ok (F_X11_lowest n h x1) (fun q => q.2 = h ∧ (0 ≤ q.1.toInt ∧ q.1.toInt ≤ 63)) := by
  unfold F_X11_lowest
  refine Ok.bind (sf_J6_bitCount_0f7a4 (h0 := h0) n h (((x1 : Int32) &&& ((-x1) : Int32)) - 1) (by omega) j ) (fun q1 hq1 => ?_)
  obtain ⟨eq1, xq1⟩ := hq1
  rw [eq1]
  have f1 := rgT (q1.1)
  refine Ok.ret ⟨rfl, ?_⟩
  show (0 ≤ ((q1.1) : Int32).toInt ∧ ((q1.1) : Int32).toInt ≤ 63)
  omega
set_option maxRecDepth 100000 in
set_option maxHeartbeats 4000000 in
theorem sfW_X11_movedInAll_4 {h0 : Hp} : ∀ (n : Nat), (∀ (h : Hp) (l1 : Int32) (l2 : Int32), J h0 h → 0 ≤ l2.toInt → (1 : Int) < n → (1 : Int) + (5 - l2.toInt) < n → Ok (W_X11_movedInAll n 4 h l1 l2) (fun q => q.2 = h ∧ True)) := by
  intro n
  induction n with
  | zero => intro h l1 l2 j i0 hB hM; exfalso; omega
  | succ n ih =>
    intro h l1 l2 j i0 hB hM
    rw [u_X11_movedInAll]
    refine Ok.pos rfl ?_
    have f1 := cR 23 2 0 5 (by decide) j
    have f2 := rgT (hi h 23 2)
    have f3 := rgT (l2)
    refine Ok.le (fun c4 => ?_) (fun c4 => ?_)
    · exact Ok.ret ⟨rfl, trivial⟩
    · have f5 := lit_5
      refine Ok.le (fun c6 => ?_) (fun c6 => ?_)
      · exact Ok.ret ⟨rfl, trivial⟩
      · refine Ok.chk (ixT (by omega) (by omega)) (fun c7 => ?_)
        have f8 := lit_1
        first | have f9 := adT (l2) (1) (by omega) (by omega) | have f9 := adT (l2) (1)
        have f10 := rgT (l2 + 1)
        exact ih h (l1 + (hi h 33 (Int32.toNatClampNeg l2))) (l2 + 1) j  (by omega) (by omega) (by omega)
set_option maxRecDepth 100000 in
set_option maxHeartbeats 4000000 in
theorem sf_X11_movedInAll {h0 : Hp} (n : Nat) (h : Hp) (hn : 17179869185 ≤ n) (j : J h0 h) : Ok (F_X11_movedInAll n h) (fun q => q.2 = h ∧ True) := by
  unfold F_X11_movedInAll
  have f1 := lit_0
  exact sfW_X11_movedInAll_4 (h0 := h0) n h 0 0 j  (by omega) (by omega) (by omega)
set_option maxRecDepth 100000 in
set_option maxHeartbeats 4000000 in
theorem sf_X11_place {h0 : Hp} (n : Nat) (h : Hp) (hn : 1 ≤ n) (j : J h0 h) : Ok (F_X11_place n h) (fun q => q.2 = h ∧ True) := by
  unfold F_X11_place
  exact Ok.ret ⟨rfl, trivial⟩
set_option maxRecDepth 100000 in
set_option maxHeartbeats 4000000 in
theorem sf_X3_has {h0 : Hp} (n : Nat) (h : Hp) (a : Nat) (x1 : Int32) (hn : 1 ≤ n) (j : J h0 h) (hs : IsFd a) : Ok (F_X3_has n h a x1) (fun q => q.2 = h ∧ True) := by
  unfold F_X3_has
  have f1 := rgT (x1)
  have f2 := lit_0
  refine Ok.lt (fun c3 => ?_) (fun c3 => ?_)
  · exact Ok.ret ⟨rfl, trivial⟩
  · have f4 := rgT ((hi h a 0) * (hi h a 1))
    refine Ok.le (fun c5 => ?_) (fun c5 => ?_)
    · exact Ok.ret ⟨rfl, trivial⟩
    · exact Ok.ret ⟨rfl, trivial⟩
set_option maxRecDepth 100000 in
set_option maxHeartbeats 4000000 in
theorem sf_X3_grown {h0 : Hp} (n : Nat) (h : Hp) (a : Nat) (x1 : Int32) (hn : 1 ≤ n) (j : J h0 h) (hs : IsFd a) : Ok (F_X3_grown n h a x1) (fun q => q.2 = h ∧ True) := by
  unfold F_X3_grown
  exact Ok.ret ⟨rfl, trivial⟩
set_option maxRecDepth 100000 in
set_option maxHeartbeats 4000000 in
theorem sfW_X3_steps_8 {h0 : Hp} : ∀ (n : Nat), (∀ (h : Hp) (a : Nat) (l1 : Int32) (l2 : Int32) (l3 : Int32) (l4 : Int32) (l5 : Int32), J h0 h → IsFd a → (1 : Int) < n → (1 : Int) + (26 - l5.toInt) < n → Ok (W_X3_steps n 8 h a l1 l2 l3 l4 l5) (fun q => q.2 = h ∧ True)) := by
  intro n
  induction n with
  | zero => intro h a l1 l2 l3 l4 l5 j hs hB hM; exfalso; omega
  | succ n ih =>
    intro h a l1 l2 l3 l4 l5 j hs hB hM
    rw [u_X3_steps]
    refine Ok.pos rfl ?_
    have f1 := lit_25
    have f2 := rgT (l5)
    refine Ok.lt (fun c3 => ?_) (fun c3 => ?_)
    · exact Ok.ret ⟨rfl, trivial⟩
    · have f4 := and_rg ((((l4 : Int32).toUInt32 >>> ((l2 : Int32).toUInt32 &&& Int32.toUInt32 31)).toInt32) : Int32) (1 : Int32) 1 lit_1 (by decide)
      have f5 := lit_0
      refine Ok.eq (fun c6 => ?_) (fun c6 => ?_)
      · refine Ok.bind (sf_X3_grown (h0 := h0) n h a l4 (by omega) j hs) (fun q3 hq3 => ?_)
        obtain ⟨eq3, xq3⟩ := hq3
        rw [eq3]
        have f7 := lit_1
        first | have f8 := adT (l5) (1) (by omega) (by omega) | have f8 := adT (l5) (1)
        have f9 := rgT (l5 + 1)
        exact ih h a l1 l2 l3 ((l4 : Int32) ||| (((q3.1 : Int32) &&& (l3 : Int32)) : Int32)) (l5 + 1) j hs  (by omega) (by omega)
      · exact Ok.ret ⟨rfl, trivial⟩
set_option maxRecDepth 100000 in
set_option maxHeartbeats 4000000 in
theorem sf_X3_steps {h0 : Hp} (n : Nat) (h : Hp) (a : Nat) (x1 : Int32) (x2 : Int32) (x3 : Int32) (hn : 17179869185 ≤ n) (j : J h0 h) (hs : IsFd a) : Ok (F_X3_steps n h a x1 x2 x3) (fun q => q.2 = h ∧ True) := by
  unfold F_X3_steps
  have f1 := lit_0
  exact sfW_X3_steps_8 (h0 := h0) n h a x1 x2 x3 ((1 : Int32) <<< ((x1 : Int32) &&& 31)) 0 j hs  (by omega) (by omega)
set_option maxRecDepth 100000 in
set_option maxHeartbeats 4000000 in
theorem sf_X11_far {h0 : Hp} (n : Nat) (h : Hp) (x1 : Int32) (x2 : Int32) (hn : 17179869185 ≤ n) (j : J h0 h) : Ok (F_X11_far n h x1 x2) (fun q => q.2 = h ∧ True) := by
  unfold F_X11_far
  refine Ok.bind (sf_X3_has (h0 := h0) n h 24 x1 (by omega) j fd_24) (fun q1 hq1 => ?_)
  obtain ⟨eq1, xq1⟩ := hq1
  rw [eq1]
  have f1 := rgT (q1.1)
  have f2 := lit_0
  refine Ok.eq (fun c3 => ?_) (fun c3 => ?_)
  · exact Ok.ret ⟨rfl, trivial⟩
  · refine Ok.bind (sf_X3_has (h0 := h0) n h 24 x2 (by omega) j fd_24) (fun q4 hq4 => ?_)
    obtain ⟨eq4, xq4⟩ := hq4
    rw [eq4]
    have f4 := rgT (q4.1)
    refine Ok.eq (fun c5 => ?_) (fun c5 => ?_)
    · exact Ok.ret ⟨rfl, trivial⟩
    · refine Ok.bind (sf_X3_steps (h0 := h0) n h 24 x1 x2 (((((hi h 24 2) : Int32) &&& ((((hi h 30 2) : Int32) ^^^ ((-1) : Int32)) : Int32)) : Int32) ||| (((1 : Int32) <<< ((x2 : Int32) &&& 31)) : Int32)) (by omega) j fd_24) (fun q7 hq7 => ?_)
      obtain ⟨eq7, xq7⟩ := hq7
      rw [eq7]
      have f6 := rgT (q7.1)
      refine Ok.eqV rfl lit_m1 (fun c7 => ?_) (fun c7 => ?_)
      · exact Ok.ret ⟨rfl, trivial⟩
      · exact Ok.ret ⟨rfl, trivial⟩
set_option maxRecDepth 100000 in
set_option maxHeartbeats 4000000 in
theorem sf_X2_clear {h0 : Hp} (n : Nat) (h : Hp) (hn : 1 ≤ n) (j : J h0 h) : Ok (F_X2_clear n h) (fun q => J h0 q ∧ True) := by
  unfold F_X2_clear
  generalize eg1 : wrI h 201 2 0 = g1
  have f2 := lit_0
  have jg1 : J h0 g1 := JwC 0 20 eg1 j (by decide) ⟨by omega, by omega⟩ (by decide)
  exact Ok.ret ⟨jg1, trivial⟩
set_option maxRecDepth 100000 in
set_option maxHeartbeats 4000000 in
theorem sf_X11_forget {h0 : Hp} (n : Nat) (h : Hp) (hn : 1 ≤ n) (j : J h0 h) : Ok (F_X11_forget n h) (fun q => J h0 q.2 ∧ True) := by
  unfold F_X11_forget
  refine Ok.bind (sf_X2_clear (h0 := h0) n h  (by omega) j ) (fun q1 hq1 => ?_)
  obtain ⟨jq1, xq1⟩ := hq1
  exact Ok.ret ⟨jq1, trivial⟩
set_option maxRecDepth 100000 in
set_option maxHeartbeats 4000000 in
theorem sf_X8_become {h0 : Hp} (n : Nat) (h : Hp) (a : Nat) (b1 : Nat) (hn : 1 ≤ n) (j : J h0 h) (hs : Sc a) (ht1 : Sc b1) : Ok (F_X8_become n h a b1) (fun q => J h0 q ∧ True) := by
  unfold F_X8_become
  generalize eg1 : wrI h a 0 (hi h b1 0) = g1
  have jg1 : J h0 g1 := JwI eg1 j (ncO_nc (scO hs).1)
  generalize eg2 : wrI g1 a 1 (hi g1 b1 1) = g2
  have jg2 : J h0 g2 := JwI eg2 jg1 (ncO_nc (scO hs).1)
  generalize eg3 : wrI g2 a 2 (hi g2 b1 2) = g3
  have jg3 : J h0 g3 := JwI eg3 jg2 (ncO_nc (scO hs).1)
  generalize eg4 : wrI g3 a 3 (hi g3 b1 3) = g4
  have jg4 : J h0 g4 := JwI eg4 jg3 (ncO_nc (scO hs).1)
  generalize eg5 : wrA g4 (a + 1) (cpF g4 (b1 + 1) (a + 1) 25) = g5
  have jg5 : J h0 g5 := JwA eg5 jg4 (scO hs).2.1
  generalize eg6 : wrA g5 (a + 2) (cpF g5 (b1 + 2) (a + 2) 5) = g6
  have jg6 : J h0 g6 := JwA eg6 jg5 (scO hs).2.2.1
  generalize eg7 : wrA g6 (a + 3) (cpF g6 (b1 + 3) (a + 3) 5) = g7
  have jg7 : J h0 g7 := JwA eg7 jg6 (scO hs).2.2.2
  exact Ok.ret ⟨jg7, trivial⟩
set_option maxRecDepth 100000 in
set_option maxHeartbeats 4000000 in
theorem sf_X11_hold {h0 : Hp} (n : Nat) (h : Hp) (x1 : Int32) (hn : 1 ≤ n) (j : J h0 h) : Ok (F_X11_hold n h x1) (fun q => J h0 q.2 ∧ True) := by
  unfold F_X11_hold
  have f1 := rgT (x1)
  have f2 := lit_0
  refine Ok.lt (fun c3 => ?_) (fun c3 => ?_)
  · exact Ok.ret ⟨j, trivial⟩
  · have f4 := lit_3
    refine Ok.lt (fun c5 => ?_) (fun c5 => ?_)
    · refine Ok.chk (ixT (by omega) (by omega)) (fun c6 => ?_)
      refine Ok.bind (sf_X8_become (h0 := h0) n h (214 + 4 * (Int32.toNatClampNeg x1)) 30 (by omega) j (scSlot (ixO_lt c6)) sc_30) (fun q4 hq4 => ?_)
      obtain ⟨jq4, xq4⟩ := hq4
      generalize eg7 : wrI q4 0 10 (((hi q4 0 10) : Int32) ||| (((1 : Int32) <<< ((x1 : Int32) &&& 31)) : Int32)) = g7
      have jg7 : J h0 g7 := JwI eg7 jq4 (by decide)
      exact Ok.ret ⟨jg7, trivial⟩
    · exact Ok.ret ⟨j, trivial⟩
end
section
/-! the class comes to its end, 8 -/
set_option maxRecDepth 100000 in
set_option maxHeartbeats 4000000 in
theorem sf_X8_isRoped {h0 : Hp} (n : Nat) (h : Hp) (a : Nat) (x1 : Int32) (hn : 1 ≤ n) (j : J h0 h) (hs : Sc a) : Ok (F_X8_isRoped n h a x1) (fun q => q.2 = h ∧ True) := by
  unfold F_X8_isRoped
  have f1 := and_rg (((((hi h a 2) : Int32).toUInt32 >>> ((x1 : Int32).toUInt32 &&& Int32.toUInt32 31)).toInt32) : Int32) (1 : Int32) 1 lit_1 (by decide)
  have f2 := lit_0
  refine Ok.eq (fun c3 => ?_) (fun c3 => ?_)
  · exact Ok.ret ⟨rfl, trivial⟩
  · exact Ok.ret ⟨rfl, trivial⟩
set_option maxRecDepth 100000 in
set_option maxHeartbeats 4000000 in
theorem sf_X11_isFree {h0 : Hp} (n : Nat) (h : Hp) (x1 : Int32) (hn : 1 ≤ n) (j : J h0 h) : Ok (F_X11_isFree n h x1) (fun q => q.2 = h ∧ True) := by
  unfold F_X11_isFree
  refine Ok.bind (sf_X3_has (h0 := h0) n h 24 x1 (by omega) j fd_24) (fun q1 hq1 => ?_)
  obtain ⟨eq1, xq1⟩ := hq1
  rw [eq1]
  have f1 := rgT (q1.1)
  have f2 := lit_0
  refine Ok.eq (fun c3 => ?_) (fun c3 => ?_)
  · exact Ok.ret ⟨rfl, trivial⟩
  · refine Ok.bind (sf_X8_isRoped (h0 := h0) n h 30 x1 (by omega) j sc_30) (fun q4 hq4 => ?_)
    obtain ⟨eq4, xq4⟩ := hq4
    rw [eq4]
    have f4 := rgT (q4.1)
    refine Ok.eq (fun c5 => ?_) (fun c5 => ?_)
    · exact Ok.ret ⟨rfl, trivial⟩
    · exact Ok.ret ⟨rfl, trivial⟩
set_option maxRecDepth 100000 in
set_option maxHeartbeats 4000000 in
theorem sf_X6_clear {h0 : Hp} (n : Nat) (h : Hp) (hn : 1 ≤ n) (j : J h0 h) : Ok (F_X6_clear n h) (fun q => J h0 q ∧ True) := by
  unfold F_X6_clear
  generalize eg1 : wrI h 38 2 0 = g1
  have jg1 : J h0 g1 := JwI eg1 j (by decide)
  exact Ok.ret ⟨jg1, trivial⟩
set_option maxRecDepth 100000 in
set_option maxHeartbeats 4000000 in
theorem sf_X11_restore {h0 : Hp} (n : Nat) (h : Hp) (x1 : Int32) (hn : 1 ≤ n) (j : J h0 h) : Ok (F_X11_restore n h x1) (fun q => J h0 q.2 ∧ True) := by
  unfold F_X11_restore
  have f1 := rgT (x1)
  have f2 := lit_0
  refine Ok.lt (fun c3 => ?_) (fun c3 => ?_)
  · exact Ok.ret ⟨j, trivial⟩
  · have f4 := lit_3
    refine Ok.le (fun c5 => ?_) (fun c5 => ?_)
    · exact Ok.ret ⟨j, trivial⟩
    · have f6 := and_rg (((((hi h 0 10) : Int32).toUInt32 >>> ((x1 : Int32).toUInt32 &&& Int32.toUInt32 31)).toInt32) : Int32) (1 : Int32) 1 lit_1 (by decide)
      refine Ok.eq (fun c7 => ?_) (fun c7 => ?_)
      · exact Ok.ret ⟨j, trivial⟩
      · refine Ok.chk (ixT (by omega) (by omega)) (fun c8 => ?_)
        refine Ok.bind (sf_X8_become (h0 := h0) n h 30 (214 + 4 * (Int32.toNatClampNeg x1)) (by omega) j sc_30 (scSlot (ixO_lt c8))) (fun q5 hq5 => ?_)
        obtain ⟨jq5, xq5⟩ := hq5
        refine Ok.bind (sf_X6_clear (h0 := h0) n q5  (by omega) jq5 ) (fun q7 hq7 => ?_)
        obtain ⟨jq7, xq7⟩ := hq7
        exact Ok.ret ⟨jq7, trivial⟩
set_option maxRecDepth 100000 in
set_option maxHeartbeats 4000000 in
theorem sf_X2_keep {h0 : Hp} (n : Nat) (h : Hp) (x1 : Int32) (x2 : Int32) (hn : 1 ≤ n) (j : J h0 h) : Ok (F_X2_keep n h x1 x2) (fun q => J h0 q.2 ∧ True) := by
  unfold F_X2_keep
  have f1 := lit_20
  have f2 := cR 201 2 0 20 (by decide) j
  have f3 := rgT (hi h 201 2)
  refine Ok.le (fun c4 => ?_) (fun c4 => ?_)
  · exact Ok.ret ⟨j, trivial⟩
  · have f5 := rgT (x1)
    have f6 := lit_0
    refine Ok.lt (fun c7 => ?_) (fun c7 => ?_)
    · exact Ok.ret ⟨j, trivial⟩
    · have f8 := lit_60
      refine Ok.lt (fun c9 => ?_) (fun c9 => ?_)
      · refine Ok.chk (ixT (by omega) (by omega)) (fun c10 => ?_)
        generalize eg11 : wrI h 202 (Int32.toNatClampNeg (hi h 201 2)) (x1 : Int32).toInt8.toInt32 = g11
        have jg11 : J h0 g11 := JwI eg11 j (ncO_nc (by decide))
        have f12 := congrArg Int32.toInt (hiA eg11 201 2 (by decide))
        have f13 := rgT (hi g11 201 2)
        refine Ok.chk (ixT (by omega) (by omega)) (fun c14 => ?_)
        generalize eg15 : wrI g11 203 (Int32.toNatClampNeg (hi g11 201 2)) x2 = g15
        have jg15 : J h0 g15 := JwI eg15 jg11 (ncO_nc (by decide))
        generalize eg16 : wrI g15 201 2 ((hi g15 201 2) + 1) = g16
        have f17 := congrArg Int32.toInt (hiA eg15 201 2 (by decide))
        have f18 := rgT (hi g15 201 2)
        have f19 := lit_1
        first | have f20 := adT (hi g15 201 2) (1) (by omega) (by omega) | have f20 := adT (hi g15 201 2) (1)
        have f21 := rgT ((hi g15 201 2) + 1)
        have jg16 : J h0 g16 := JwC 0 20 eg16 jg15 (by decide) ⟨by omega, by omega⟩ (by decide)
        exact Ok.ret ⟨jg16, trivial⟩
      · exact Ok.ret ⟨j, trivial⟩
set_option maxRecDepth 100000 in
set_option maxHeartbeats 4000000 in
theorem sf_X11_tell {h0 : Hp} (n : Nat) (h : Hp) (x1 : Int32) (x2 : Int32) (hn : 1 ≤ n) (j : J h0 h) : Ok (F_X11_tell n h x1 x2) (fun q => J h0 q.2 ∧ True) := by
  unfold F_X11_tell
  refine Ok.bind (sf_X2_keep (h0 := h0) n h x1 x2 (by omega) j ) (fun q1 hq1 => ?_)
  obtain ⟨jq1, xq1⟩ := hq1
  exact Ok.ret ⟨jq1, trivial⟩
set_option maxRecDepth 100000 in
set_option maxHeartbeats 4000000 in
theorem sf_X0_hasGoer {h0 : Hp} (n : Nat) (h : Hp) (a : Nat) (x1 : Int32) (hn : 1 ≤ n) (j : J h0 h) (hs : IsBd a) : Ok (F_X0_hasGoer n h a x1) (fun q => q.2 = h ∧ (q.1.toInt ≠ 0 → 0 ≤ x1.toInt ∧ x1.toInt < 5)) := by
  unfold F_X0_hasGoer
  have f1 := rgT (x1)
  have f2 := lit_0
  refine Ok.lt (fun c3 => ?_) (fun c3 => ?_)
  · refine Ok.ret ⟨rfl, ?_⟩
    show (((0) : Int32).toInt ≠ 0 → 0 ≤ x1.toInt ∧ x1.toInt < 5)
    omega
  · have f4 := cR a 2 0 5 (bdC hs) j
    have f5 := rgT (hi h a 2)
    refine Ok.le (fun c6 => ?_) (fun c6 => ?_)
    · refine Ok.ret ⟨rfl, ?_⟩
      show (((0) : Int32).toInt ≠ 0 → 0 ≤ x1.toInt ∧ x1.toInt < 5)
      omega
    · have f7 := lit_5
      refine Ok.le (fun c8 => ?_) (fun c8 => ?_)
      · refine Ok.ret ⟨rfl, ?_⟩
        show (((0) : Int32).toInt ≠ 0 → 0 ≤ x1.toInt ∧ x1.toInt < 5)
        omega
      · have f9 := lit_1
        refine Ok.ret ⟨rfl, ?_⟩
        show (((1) : Int32).toInt ≠ 0 → 0 ≤ x1.toInt ∧ x1.toInt < 5)
        omega
set_option maxRecDepth 100000 in
set_option maxHeartbeats 4000000 in
theorem sf_X6_keep {h0 : Hp} (n : Nat) (h : Hp) (b1 : Nat) (hn : 1 ≤ n) (j : J h0 h) (ht1 : Sc b1) : Ok (F_X6_keep n h b1) (fun q => J h0 q ∧ True) := by
  unfold F_X6_keep
  generalize eg1 : wrI h 38 1 (((hi h 38 1) + 1) - ((hi h 38 1) + 1) / 40 * 40) = g1
  have f2 := cR 38 1 0 39 (by decide) j
  have f3 := rgT (hi h 38 1)
  have f4 := lit_1
  first | have f5 := adT (hi h 38 1) (1) (by omega) (by omega) | have f5 := adT (hi h 38 1) (1)
  have f6 := rgT ((hi h 38 1) + 1)
  first | have f7 := rmI ((hi h 38 1) + 1) (40) 40 lit_40 (by decide) (by omega) | have f7 := rmI ((hi h 38 1) + 1) (40) 40 lit_40 (by decide)
  have f8 := rgT (((hi h 38 1) + 1) - ((hi h 38 1) + 1) / 40 * 40)
  have jg1 : J h0 g1 := JwC 0 39 eg1 j (by decide) (rm40 _ (by omega)) (by decide)
  have f9 := congrArg Int32.toInt (hiE eg1)
  have f10 := rgT (hi g1 38 1)
  refine Ok.chk (ixT (by omega) (by omega)) (fun c11 => ?_)
  refine Ok.bind (sf_X8_become (h0 := h0) n g1 (40 + 4 * (Int32.toNatClampNeg (hi g1 38 1))) b1 (by omega) jg1 (scPast (ixO_lt c11)) ht1) (fun q2 hq2 => ?_)
  obtain ⟨jq2, xq2⟩ := hq2
  generalize eg12 : wrI q2 38 2 (if 40 < ((hi q2 38 2) + 1) then 40 else ((hi q2 38 2) + 1)) = g12
  have jg12 : J h0 g12 := JwI eg12 jq2 (by decide)
  exact Ok.ret ⟨jg12, trivial⟩
set_option maxRecDepth 100000 in
set_option maxHeartbeats 4000000 in
theorem sf_X11_carry {h0 : Hp} (n : Nat) (h : Hp) (x1 : Int32) (x2 : Int32) (hn : 1 ≤ n) (j : J h0 h) : Ok (F_X11_carry n h x1 x2) (fun q => J h0 q.2 ∧ True) := by
  unfold F_X11_carry
  have f1 := rgT (x1)
  refine Ok.bind (sf_X0_hasGoer (h0 := h0) n h 23 x1 (by omega) j bd_23) (fun q1 hq1 => ?_)
  obtain ⟨eq1, xq1⟩ := hq1
  rw [eq1]
  have f2 := rgT (q1.1)
  have f3 := lit_0
  refine Ok.eq (fun c4 => ?_) (fun c4 => ?_)
  · exact Ok.ret ⟨j, trivial⟩
  · refine Ok.bind (sf_X3_has (h0 := h0) n h 24 x2 (by omega) j fd_24) (fun q4 hq4 => ?_)
    obtain ⟨eq4, xq4⟩ := hq4
    rw [eq4]
    have f5 := rgT (q4.1)
    refine Ok.eq (fun c6 => ?_) (fun c6 => ?_)
    · exact Ok.ret ⟨j, trivial⟩
    · refine Ok.chk (ixT (by omega) (by omega)) (fun c7 => ?_)
      have f8 := rgT (hi h 32 (Int32.toNatClampNeg x1))
      have f9 := rgT (x2)
      refine Ok.eq (fun c10 => ?_) (fun c10 => ?_)
      · exact Ok.ret ⟨j, trivial⟩
      · refine Ok.bind (sf_X8_isRoped (h0 := h0) n h 30 x2 (by omega) j sc_30) (fun q9 hq9 => ?_)
        obtain ⟨eq9, xq9⟩ := hq9
        rw [eq9]
        have f11 := rgT (q9.1)
        refine Ok.eq (fun c12 => ?_) (fun c12 => ?_)
        · refine Ok.bind (sf_X6_keep (h0 := h0) n h 30 (by omega) j sc_30) (fun q12 hq12 => ?_)
          obtain ⟨jq12, xq12⟩ := hq12
          refine Ok.pos c7 ?_
          generalize eg13 : wrI q12 32 (Int32.toNatClampNeg x1) x2 = g13
          have jg13 : J h0 g13 := JwI eg13 jq12 (ncO_nc (by decide))
          exact Ok.ret ⟨jg13, trivial⟩
        · exact Ok.ret ⟨j, trivial⟩
set_option maxRecDepth 100000 in
set_option maxHeartbeats 4000000 in
theorem sf_X8_isTuned {h0 : Hp} (n : Nat) (h : Hp) (a : Nat) (x1 : Int32) (hn : 1 ≤ n) (j : J h0 h) (hs : Sc a) : Ok (F_X8_isTuned n h a x1) (fun q => q.2 = h ∧ (q.1.toInt ≠ 0 → 0 ≤ x1.toInt ∧ x1.toInt < 25)) := by
  unfold F_X8_isTuned
  have f1 := rgT (x1)
  have f2 := lit_0
  refine Ok.lt (fun c3 => ?_) (fun c3 => ?_)
  · refine Ok.ret ⟨rfl, ?_⟩
    show (((0) : Int32).toInt ≠ 0 → 0 ≤ x1.toInt ∧ x1.toInt < 25)
    omega
  · have f4 := lit_25
    refine Ok.le (fun c5 => ?_) (fun c5 => ?_)
    · refine Ok.ret ⟨rfl, ?_⟩
      show (((0) : Int32).toInt ≠ 0 → 0 ≤ x1.toInt ∧ x1.toInt < 25)
      omega
    · have f6 := and_rg (((((hi h a 3) : Int32).toUInt32 >>> ((x1 : Int32).toUInt32 &&& Int32.toUInt32 31)).toInt32) : Int32) (1 : Int32) 1 lit_1 (by decide)
      refine Ok.eq (fun c7 => ?_) (fun c7 => ?_)
      · refine Ok.ret ⟨rfl, ?_⟩
        show (((0) : Int32).toInt ≠ 0 → 0 ≤ x1.toInt ∧ x1.toInt < 25)
        omega
      · have f8 := lit_1
        refine Ok.ret ⟨rfl, ?_⟩
        show (((1) : Int32).toInt ≠ 0 → 0 ≤ x1.toInt ∧ x1.toInt < 25)
        omega
set_option maxRecDepth 100000 in
set_option maxHeartbeats 4000000 in
theorem sf_X8_beatOf {h0 : Hp} (n : Nat) (h : Hp) (a : Nat) (x1 : Int32) (hn : 1 ≤ n) (j : J h0 h) (hs : Sc a) : Ok (F_X8_beatOf n h a x1) (fun q => q.2 = h ∧ q.1.toInt ≤ 15) := by
  unfold F_X8_beatOf
  have f1 := rgT (x1)
  refine Ok.bind (sf_X8_isTuned (h0 := h0) n h a x1 (by omega) j hs) (fun q1 hq1 => ?_)
  obtain ⟨eq1, xq1⟩ := hq1
  rw [eq1]
  have f2 := rgT (q1.1)
  have f3 := lit_0
  refine Ok.eq (fun c4 => ?_) (fun c4 => ?_)
  · refine Ok.ret ⟨rfl, ?_⟩
    show ((0) : Int32).toInt ≤ 15
    omega
  · refine Ok.chk (ixT (by omega) (by omega)) (fun c5 => ?_)
    have f6 := byT (hi h (a + 1) (Int32.toNatClampNeg x1))
    have f7 := shr3T ((vp_nar .byte (hi h (a + 1) (Int32.toNatClampNeg x1))) : Int32)
    refine Ok.ret ⟨rfl, ?_⟩
    show ((((vp_nar .byte (hi h (a + 1) (Int32.toNatClampNeg x1))) : Int32) >>> ((3 : Int32) &&& 31)) : Int32).toInt ≤ 15
    omega
set_option maxRecDepth 100000 in
set_option maxHeartbeats 4000000 in
theorem sf_X8_offsetOf {h0 : Hp} (n : Nat) (h : Hp) (a : Nat) (x1 : Int32) (hn : 1 ≤ n) (j : J h0 h) (hs : Sc a) : Ok (F_X8_offsetOf n h a x1) (fun q => q.2 = h ∧ (0 ≤ q.1.toInt ∧ q.1.toInt ≤ 7)) := by
  unfold F_X8_offsetOf
  have f1 := rgT (x1)
  refine Ok.bind (sf_X8_isTuned (h0 := h0) n h a x1 (by omega) j hs) (fun q1 hq1 => ?_)
  obtain ⟨eq1, xq1⟩ := hq1
  rw [eq1]
  have f2 := rgT (q1.1)
  have f3 := lit_0
  refine Ok.eq (fun c4 => ?_) (fun c4 => ?_)
  · refine Ok.ret ⟨rfl, ?_⟩
    show (0 ≤ ((0) : Int32).toInt ∧ ((0) : Int32).toInt ≤ 7)
    omega
  · refine Ok.chk (ixT (by omega) (by omega)) (fun c5 => ?_)
    have f6 := and_rg ((vp_nar .byte (hi h (a + 1) (Int32.toNatClampNeg x1))) : Int32) (7 : Int32) 7 lit_7 (by decide)
    refine Ok.ret ⟨rfl, ?_⟩
    show (0 ≤ ((((vp_nar .byte (hi h (a + 1) (Int32.toNatClampNeg x1))) : Int32) &&& (7 : Int32)) : Int32).toInt ∧ ((((vp_nar .byte (hi h (a + 1) (Int32.toNatClampNeg x1))) : Int32) &&& (7 : Int32)) : Int32).toInt ≤ 7)
    omega
set_option maxRecDepth 100000 in
set_option maxHeartbeats 4000000 in
theorem sf_X8_soundsAt {h0 : Hp} (n : Nat) (h : Hp) (a : Nat) (x1 : Int32) (x2 : Int32) (hn : 1 ≤ n) (j : J h0 h) (hs : Sc a) : Ok (F_X8_soundsAt n h a x1 x2) (fun q => q.2 = h ∧ True) := by
  unfold F_X8_soundsAt
  refine Ok.bind (sf_X8_beatOf (h0 := h0) n h a x1 (by omega) j hs) (fun q1 hq1 => ?_)
  obtain ⟨eq1, xq1⟩ := hq1
  rw [eq1]
  have f1 := rgT (q1.1)
  have f2 := lit_0
  refine Ok.le (fun c3 => ?_) (fun c3 => ?_)
  · exact Ok.ret ⟨rfl, trivial⟩
  · refine Ok.div (by omega) ?_
    refine Ok.bind (sf_X8_offsetOf (h0 := h0) n h a x1 (by omega) j hs) (fun q5 hq5 => ?_)
    obtain ⟨eq5, xq5⟩ := hq5
    rw [eq5]
    have f5 := rgT (x2 - x2 / q1.1 * q1.1)
    have f6 := rgT (q5.1)
    refine Ok.eq (fun c7 => ?_) (fun c7 => ?_)
    · exact Ok.ret ⟨rfl, trivial⟩
    · exact Ok.ret ⟨rfl, trivial⟩
set_option maxRecDepth 100000 in
set_option maxHeartbeats 4000000 in
theorem sfW_X8_goersIn_5 {h0 : Hp} : ∀ (n : Nat), (∀ (h : Hp) (a : Nat) (l1 : Int32) (l2 : Int32) (l3 : Int32) (l4 : Int32), J h0 h → Sc a → 0 ≤ l4.toInt → (1 : Int) < n → (1 : Int) + (5 - l4.toInt) < n → Ok (W_X8_goersIn n 5 h a l1 l2 l3 l4) (fun q => q.2 = h ∧ True)) := by
  intro n
  induction n with
  | zero => intro h a l1 l2 l3 l4 j hs i0 hB hM; exfalso; omega
  | succ n ih =>
    intro h a l1 l2 l3 l4 j hs i0 hB hM
    rw [u_X8_goersIn]
    refine Ok.pos rfl ?_
    have f1 := rgT (l2)
    have f2 := rgT (l4)
    refine Ok.le (fun c3 => ?_) (fun c3 => ?_)
    · exact Ok.ret ⟨rfl, trivial⟩
    · have f4 := lit_5
      refine Ok.le (fun c5 => ?_) (fun c5 => ?_)
      · exact Ok.ret ⟨rfl, trivial⟩
      · refine Ok.chk (ixT (by omega) (by omega)) (fun c6 => ?_)
        have f7 := rgT (hi h (a + 2) (Int32.toNatClampNeg l4))
        have f8 := rgT (l1)
        refine Ok.eq (fun c9 => ?_) (fun c9 => ?_)
        · have f10 := lit_1
          first | have f11 := adT (l4) (1) (by omega) (by omega) | have f11 := adT (l4) (1)
          have f12 := rgT (l4 + 1)
          exact ih h a l1 l2 ((l3 : Int32) ||| (((1 : Int32) <<< ((l4 : Int32) &&& 31)) : Int32)) (l4 + 1) j hs (by omega) (by omega) (by omega)
        · have f13 := lit_1
          first | have f14 := adT (l4) (1) (by omega) (by omega) | have f14 := adT (l4) (1)
          have f15 := rgT (l4 + 1)
          exact ih h a l1 l2 l3 (l4 + 1) j hs (by omega) (by omega) (by omega)
set_option maxRecDepth 100000 in
set_option maxHeartbeats 4000000 in
theorem sf_X8_goersIn {h0 : Hp} (n : Nat) (h : Hp) (a : Nat) (x1 : Int32) (x2 : Int32) (hn : 17179869185 ≤ n) (j : J h0 h) (hs : Sc a) : Ok (F_X8_goersIn n h a x1 x2) (fun q => q.2 = h ∧ True) := by
  unfold F_X8_goersIn
  have f1 := lit_0
  exact sfW_X8_goersIn_5 (h0 := h0) n h a x1 x2 0 0 j hs (by omega) (by omega) (by omega)
set_option maxRecDepth 100000 in
set_option maxHeartbeats 4000000 in
theorem sf_X3_leftOf {h0 : Hp} (n : Nat) (h : Hp) (a : Nat) (x1 : Int32) (hn : 1 ≤ n) (j : J h0 h) (hs : IsFd a) : Ok (F_X3_leftOf n h a x1) (fun q => q.2 = h ∧ True) := by
  unfold F_X3_leftOf
  have f1 := rgT (hi h a 0)
  have f2 := lit_0
  refine Ok.le (fun c3 => ?_) (fun c3 => ?_)
  · exact Ok.ret ⟨rfl, trivial⟩
  · refine Ok.div (by omega) ?_
    exact Ok.ret ⟨rfl, trivial⟩
set_option maxRecDepth 100000 in
set_option maxHeartbeats 4000000 in
theorem sf_X3_topOf {h0 : Hp} (n : Nat) (h : Hp) (a : Nat) (x1 : Int32) (hn : 1 ≤ n) (j : J h0 h) (hs : IsFd a) : Ok (F_X3_topOf n h a x1) (fun q => q.2 = h ∧ True) := by
  unfold F_X3_topOf
  have f1 := rgT (hi h a 0)
  have f2 := lit_0
  refine Ok.le (fun c3 => ?_) (fun c3 => ?_)
  · exact Ok.ret ⟨rfl, trivial⟩
  · refine Ok.div (by omega) ?_
    exact Ok.ret ⟨rfl, trivial⟩
set_option maxRecDepth 100000 in
set_option maxHeartbeats 4000000 in
theorem sf_X4_elseOf {h0 : Hp} (n : Nat) (h : Hp) (a : Nat) (x1 : Int32) (hn : 1 ≤ n) (j : J h0 h) (hs : IsLw a) : Ok (F_X4_elseOf n h a x1) (fun q => q.2 = h ∧ True) := by
  unfold F_X4_elseOf
  have f1 := rgT (x1)
  have f2 := lit_0
  refine Ok.lt (fun c3 => ?_) (fun c3 => ?_)
  · exact Ok.ret ⟨rfl, trivial⟩
  · have f4 := cR a 3 0 404 (lwC hs) j
    have f5 := rgT (hi h a 3)
    refine Ok.le (fun c6 => ?_) (fun c6 => ?_)
    · exact Ok.ret ⟨rfl, trivial⟩
    · refine Ok.chk (ixT (by omega) (by omega)) (fun c7 => ?_)
      exact Ok.ret ⟨rfl, trivial⟩
end
section
/-! the class comes to its end, 9 -/
set_option maxRecDepth 100000 in
set_option maxHeartbeats 4000000 in
theorem sf_X4_reckon {h0 : Hp} (n : Nat) (h : Hp) (x1 : Int32) (x2 : Int32) (x3 : Int32) (hn : 1 ≤ n) (j : J h0 h) : Ok (F_X4_reckon n h x1 x2 x3) (fun q => q.2 = h ∧ True) := by
  unfold F_X4_reckon
  have f1 := rgT (x1)
  refine Ok.eqV rfl lit_m13 (fun c2 => ?_) (fun c2 => ?_)
  · have f3 := rgT (x3)
    have f4 := lit_0
    refine Ok.eq (fun c5 => ?_) (fun c5 => ?_)
    · exact Ok.ret ⟨rfl, trivial⟩
    · refine Ok.div (by omega) ?_
      exact Ok.ret ⟨rfl, trivial⟩
  · refine Ok.eqV rfl lit_m12 (fun c7 => ?_) (fun c7 => ?_)
    · exact Ok.ret ⟨rfl, trivial⟩
    · refine Ok.eqV rfl lit_m11 (fun c8 => ?_) (fun c8 => ?_)
      · exact Ok.ret ⟨rfl, trivial⟩
      · refine Ok.eqV rfl lit_m10 (fun c9 => ?_) (fun c9 => ?_)
        · exact Ok.ret ⟨rfl, trivial⟩
        · exact Ok.ret ⟨rfl, trivial⟩
set_option maxRecDepth 100000 in
set_option maxHeartbeats 4000000 in
theorem sfW_X4_value_29 {h0 : Hp} : ∀ (n : Nat), (∀ (h : Hp) (a : Nat) (b2 : Nat) (l1 : Int32) (l3 : Int32) (l4 : Int32) (l5 : Int32), J h0 h → IsLw a → ArI 9 b2 → 0 ≤ l3.toInt → l3.toInt ≤ 16 → (1 : Int) < n → (1 : Int) + (404 - l5.toInt) < n → Ok (W_X4_value n 29 h a b2 l1 l3 l4 l5) (fun q => J h0 q.2 ∧ True)) := by
  intro n
  induction n with
  | zero => intro h a b2 l1 l3 l4 l5 j hs ht2 i0 i1 hB hM; exfalso; omega
  | succ n ih =>
    intro h a b2 l1 l3 l4 l5 j hs ht2 i0 i1 hB hM
    rw [u_X4_value]
    refine Ok.pos rfl ?_
    have f1 := lit_404
    have f2 := rgT (l5)
    refine Ok.le (fun c3 => ?_) (fun c3 => ?_)
    · exact Ok.ret ⟨j, trivial⟩
    · have f4 := rgT (l4)
      have f5 := lit_0
      refine Ok.lt (fun c6 => ?_) (fun c6 => ?_)
      · exact Ok.ret ⟨j, trivial⟩
      · have f7 := cR a 3 0 404 (lwC hs) j
        have f8 := rgT (hi h a 3)
        refine Ok.le (fun c9 => ?_) (fun c9 => ?_)
        · exact Ok.ret ⟨j, trivial⟩
        · refine Ok.chk (ixT (by omega) (by omega)) (fun c10 => ?_)
          have f11 := rgT (hi h (a + 1) (Int32.toNatClampNeg l4))
          refine Ok.ltV rfl lit_m9 (fun c12 => ?_) (fun c12 => ?_)
          · refine Ok.eqV rfl lit_m15 (fun c13 => ?_) (fun c13 => ?_)
            · have f14 := rgT (l3)
              have f15 := lit_1
              refine Ok.eq (fun c16 => ?_) (fun c16 => ?_)
              · exact Ok.ret ⟨j, trivial⟩
              · exact Ok.ret ⟨j, trivial⟩
            · have f17 := lit_2
              have f18 := rgT (l3)
              refine Ok.le (fun c19 => ?_) (fun c19 => ?_)
              · generalize ey20 : (l3 + (-1) : Int32) = y20
                first | have f21 := adG ey20 rfl lit_m1 (by omega) (by omega) | have f21 := adG ey20 rfl lit_m1
                have f22 := rgT (y20)
                have f23 := lit_1
                generalize ey24 : (y20 - 1 : Int32) = y24
                first | have f25 := sbG ey24 rfl rfl (by omega) (by omega) | have f25 := sbG ey24 rfl rfl
                have f26 := rgT (y24)
                refine Ok.chk (ixT (by omega) (by omega)) (fun c27 => ?_)
                refine Ok.chk (ixT (by omega) (by omega)) (fun c28 => ?_)
                refine Ok.eqV rfl lit_m14 (fun c29 => ?_) (fun c29 => ?_)
                · have f30 := rgT (hi h (a + 3) (Int32.toNatClampNeg y20))
                  have f31 := rgT (hi h (a + 3) (Int32.toNatClampNeg y24))
                  refine Ok.le (fun c32 => ?_) (fun c32 => ?_)
                  · refine Ok.bind (sf_X4_elseOf (h0 := h0) n h a (l4 + 1) (by omega) j hs) (fun q20 hq20 => ?_)
                    obtain ⟨eq20, xq20⟩ := hq20
                    rw [eq20]
                    generalize ey33 : (y20 + (-1) : Int32) = y33
                    first | have f34 := adG ey33 rfl lit_m1 (by omega) (by omega) | have f34 := adG ey33 rfl lit_m1
                    have f35 := rgT (y33)
                    first | have f36 := adT (l5) (1) (by omega) (by omega) | have f36 := adT (l5) (1)
                    have f37 := rgT (l5 + 1)
                    exact ih h a b2 l1 y33 q20.1 (l5 + 1) j hs ht2 (by omega) (by omega) (by omega) (by omega)
                  · generalize ey38 : (y20 + (-1) : Int32) = y38
                    first | have f39 := adG ey38 rfl lit_m1 (by omega) (by omega) | have f39 := adG ey38 rfl lit_m1
                    have f40 := rgT (y38)
                    first | have f41 := adT (l5) (1) (by omega) (by omega) | have f41 := adT (l5) (1)
                    have f42 := rgT (l5 + 1)
                    exact ih h a b2 l1 y38 ((l4 + 1) + 1) (l5 + 1) j hs ht2 (by omega) (by omega) (by omega) (by omega)
                · refine Ok.eqV rfl lit_m13 (fun c43 => ?_) (fun c43 => ?_)
                  · have f44 := rgT (hi h (a + 3) (Int32.toNatClampNeg y20))
                    refine Ok.eq (fun c45 => ?_) (fun c45 => ?_)
                    · exact Ok.ret ⟨j, trivial⟩
                    · refine Ok.bind (sf_X4_reckon (h0 := h0) n h (hi h (a + 1) (Int32.toNatClampNeg l4)) (hi h (a + 3) (Int32.toNatClampNeg y24)) (hi h (a + 3) (Int32.toNatClampNeg y20)) (by omega) j ) (fun q16 hq16 => ?_)
                      obtain ⟨eq16, xq16⟩ := hq16
                      rw [eq16]
                      refine Ok.chk (ixT (by omega) (by omega)) (fun c46 => ?_)
                      generalize eg47 : wrI h (a + 3) (Int32.toNatClampNeg y24) q16.1 = g47
                      have jg47 : J h0 g47 := JwI eg47 j (ncO_nc (lwO hs).2.2.2)
                      first | have f48 := adT (l5) (1) (by omega) (by omega) | have f48 := adT (l5) (1)
                      have f49 := rgT (l5 + 1)
                      exact ih g47 a b2 l1 y20 (l4 + 1) (l5 + 1) jg47 hs ht2 (by omega) (by omega) (by omega) (by omega)
                  · refine Ok.bind (sf_X4_reckon (h0 := h0) n h (hi h (a + 1) (Int32.toNatClampNeg l4)) (hi h (a + 3) (Int32.toNatClampNeg y24)) (hi h (a + 3) (Int32.toNatClampNeg y20)) (by omega) j ) (fun q12 hq12 => ?_)
                    obtain ⟨eq12, xq12⟩ := hq12
                    rw [eq12]
                    refine Ok.chk (ixT (by omega) (by omega)) (fun c50 => ?_)
                    generalize eg51 : wrI h (a + 3) (Int32.toNatClampNeg y24) q12.1 = g51
                    have jg51 : J h0 g51 := JwI eg51 j (ncO_nc (lwO hs).2.2.2)
                    first | have f52 := adT (l5) (1) (by omega) (by omega) | have f52 := adT (l5) (1)
                    have f53 := rgT (l5 + 1)
                    exact ih g51 a b2 l1 y20 (l4 + 1) (l5 + 1) jg51 hs ht2 (by omega) (by omega) (by omega) (by omega)
              · exact Ok.ret ⟨j, trivial⟩
          · have f54 := lit_16
            have f55 := rgT (l3)
            refine Ok.le (fun c56 => ?_) (fun c56 => ?_)
            · exact Ok.ret ⟨j, trivial⟩
            · generalize ey57 : ((-1) - (hi h (a + 1) (Int32.toNatClampNeg l4)) : Int32) = y57
              first | have f58 := sbG ey57 lit_m1 rfl (by omega) (by omega) | have f58 := sbG ey57 lit_m1 rfl
              have f59 := rgT (y57)
              have f60 := lit_9
              refine Ok.lt (fun c61 => ?_) (fun c61 => ?_)
              · refine Ok.lt (fun c62 => ?_) (fun c62 => ?_)
                · refine Ok.chk (ixT (by omega) (by omega)) (fun c63 => ?_)
                  refine Ok.chk (ixT (by omega) (by omega)) (fun c64 => ?_)
                  generalize eg65 : wrI h (a + 3) (Int32.toNatClampNeg l3) (hi h b2 (Int32.toNatClampNeg y57)) = g65
                  have jg65 : J h0 g65 := JwI eg65 j (ncO_nc (lwO hs).2.2.2)
                  have f66 := lit_1
                  first | have f67 := adT (l3) (1) (by omega) (by omega) | have f67 := adT (l3) (1)
                  have f68 := rgT (l3 + 1)
                  first | have f69 := adT (l5) (1) (by omega) (by omega) | have f69 := adT (l5) (1)
                  have f70 := rgT (l5 + 1)
                  exact ih g65 a b2 l1 (l3 + 1) (l4 + 1) (l5 + 1) jg65 hs ht2 (by omega) (by omega) (by omega) (by omega)
                · refine Ok.chk (ixT (by omega) (by omega)) (fun c71 => ?_)
                  generalize eg72 : wrI h (a + 3) (Int32.toNatClampNeg l3) (hi h (a + 1) (Int32.toNatClampNeg l4)) = g72
                  have jg72 : J h0 g72 := JwI eg72 j (ncO_nc (lwO hs).2.2.2)
                  have f73 := lit_1
                  first | have f74 := adT (l3) (1) (by omega) (by omega) | have f74 := adT (l3) (1)
                  have f75 := rgT (l3 + 1)
                  first | have f76 := adT (l5) (1) (by omega) (by omega) | have f76 := adT (l5) (1)
                  have f77 := rgT (l5 + 1)
                  exact ih g72 a b2 l1 (l3 + 1) (l4 + 1) (l5 + 1) jg72 hs ht2 (by omega) (by omega) (by omega) (by omega)
              · exact Ok.ret ⟨j, trivial⟩
set_option maxRecDepth 100000 in
set_option maxHeartbeats 4000000 in
theorem sf_X4_value {h0 : Hp} (n : Nat) (h : Hp) (a : Nat) (x1 : Int32) (b2 : Nat) (hn : 17179869185 ≤ n) (j : J h0 h) (hs : IsLw a) (ht2 : ArI 9 b2) : Ok (F_X4_value n h a x1 b2) (fun q => J h0 q.2 ∧ True) := by
  unfold F_X4_value
  have f1 := rgT (x1)
  have f2 := lit_0
  refine Ok.lt (fun c3 => ?_) (fun c3 => ?_)
  · exact sfW_X4_value_29 (h0 := h0) n h a b2 x1 0 (hi h a 3) 0 j hs ht2 (by omega) (by omega) (by omega) (by omega)
  · have f4 := lit_4
    refine Ok.le (fun c5 => ?_) (fun c5 => ?_)
    · exact sfW_X4_value_29 (h0 := h0) n h a b2 x1 0 (hi h a 3) 0 j hs ht2 (by omega) (by omega) (by omega) (by omega)
    · refine Ok.chk (ixT (by omega) (by omega)) (fun c6 => ?_)
      exact sfW_X4_value_29 (h0 := h0) n h a b2 x1 0 (hi h (a + 2) (Int32.toNatClampNeg x1)) 0 j hs ht2 (by omega) (by omega) (by omega) (by omega)
set_option maxRecDepth 100000 in
set_option maxHeartbeats 4000000 in
theorem sf_X0_ask {h0 : Hp} (n : Nat) (h : Hp) (a : Nat) (b1 : Nat) (x2 : Int32) (x3 : Int32) (x4 : Int32) (x5 : Int32) (hn : 17179869185 ≤ n) (j : J h0 h) (hs : IsBd a) (ht1 : Sc b1) : Ok (F_X0_ask n h a b1 x2 x3 x4 x5) (fun q => J h0 q.2 ∧ True) := by
  unfold F_X0_ask
  refine Ok.bind (sf_X3_leftOf (h0 := h0) n h (a + 1) x3 (by omega) j hs.2.1) (fun q1 hq1 => ?_)
  obtain ⟨eq1, xq1⟩ := hq1
  rw [eq1]
  generalize eg1 : wrI h (a + 6) 0 q1.1 = g1
  have jg1 : J h0 g1 := JwI eg1 j (ncO_nc (bdO hs).2)
  refine Ok.bind (sf_X3_topOf (h0 := h0) n g1 (a + 1) x3 (by omega) jg1 hs.2.1) (fun q3 hq3 => ?_)
  obtain ⟨eq3, xq3⟩ := hq3
  rw [eq3]
  generalize eg2 : wrI g1 (a + 6) 1 q3.1 = g2
  have jg2 : J h0 g2 := JwI eg2 jg1 (ncO_nc (bdO hs).2)
  generalize eg3 : wrI g2 (a + 6) 2 (hi g2 b1 0) = g3
  have jg3 : J h0 g3 := JwI eg3 jg2 (ncO_nc (bdO hs).2)
  refine Ok.bind (sf_X8_beatOf (h0 := h0) n g3 b1 x3 (by omega) jg3 ht1) (fun q5 hq5 => ?_)
  obtain ⟨eq5, xq5⟩ := hq5
  rw [eq5]
  generalize eg4 : wrI g3 (a + 6) 3 q5.1 = g4
  have jg4 : J h0 g4 := JwI eg4 jg3 (ncO_nc (bdO hs).2)
  generalize eg5 : wrI g4 (a + 6) 4 x4 = g5
  have jg5 : J h0 g5 := JwI eg5 jg4 (ncO_nc (bdO hs).2)
  generalize eg6 : wrI g5 (a + 6) 5 x5 = g6
  have jg6 : J h0 g6 := JwI eg6 jg5 (ncO_nc (bdO hs).2)
  generalize eg7 : wrI g6 (a + 6) 6 (hi g6 (a + 1) 0) = g7
  have jg7 : J h0 g7 := JwI eg7 jg6 (ncO_nc (bdO hs).2)
  generalize eg8 : wrI g7 (a + 6) 7 (hi g7 (a + 1) 1) = g8
  have jg8 : J h0 g8 := JwI eg8 jg7 (ncO_nc (bdO hs).2)
  refine Ok.bind (sf_J6_bitCount_0f7a4 (h0 := h0) n g8 (hi g8 b1 3) (by omega) jg8 ) (fun q7 hq7 => ?_)
  obtain ⟨eq7, xq7⟩ := hq7
  rw [eq7]
  generalize eg9 : wrI g8 (a + 6) 8 q7.1 = g9
  have jg9 : J h0 g9 := JwI eg9 jg8 (ncO_nc (bdO hs).2)
  refine Ok.bind (sf_X4_value (h0 := h0) n g9 (a + 2) x2 (a + 6) (by omega) jg9 hs.2.2.1 ⟨hs.2.2.2.1, hs.2.2.2.2.1⟩) (fun q9 hq9 => ?_)
  obtain ⟨jq9, xq9⟩ := hq9
  exact Ok.ret ⟨jq9, trivial⟩
set_option maxRecDepth 100000 in
set_option maxHeartbeats 4000000 in
theorem sf_X0_costOf {h0 : Hp} (n : Nat) (h : Hp) (a : Nat) (b1 : Nat) (x2 : Int32) (hn : 17179869185 ≤ n) (j : J h0 h) (hs : IsBd a) (ht1 : Sc b1) : Ok (F_X0_costOf n h a b1 x2) (fun q => J h0 q.2 ∧ True) := by
  unfold F_X0_costOf
  refine Ok.bind (sf_X0_ask (h0 := h0) n h a b1 3 x2 0 0 (by omega) j hs ht1) (fun q1 hq1 => ?_)
  obtain ⟨jq1, xq1⟩ := hq1
  exact Ok.ret ⟨jq1, trivial⟩
set_option maxRecDepth 100000 in
set_option maxHeartbeats 4000000 in
theorem sf_X11_cell {h0 : Hp} (n : Nat) (h : Hp) (x1 : Int32) (x2 : Int32) (hn : 17179869185 ≤ n) (j : J h0 h) : Ok (F_X11_cell n h x1 x2) (fun q => J h0 q.2 ∧ True) := by
  unfold F_X11_cell
  refine Ok.bind (sf_X3_has (h0 := h0) n h 24 x1 (by omega) j fd_24) (fun q1 hq1 => ?_)
  obtain ⟨eq1, xq1⟩ := hq1
  rw [eq1]
  have f1 := rgT (q1.1)
  have f2 := lit_0
  refine Ok.eq (fun c3 => ?_) (fun c3 => ?_)
  · exact Ok.ret ⟨j, trivial⟩
  · have f4 := rgT (x1)
    refine Ok.bind (sf_X8_isTuned (h0 := h0) n h 30 x1 (by omega) j sc_30) (fun q4 hq4 => ?_)
    obtain ⟨eq4, xq4⟩ := hq4
    rw [eq4]
    have f5 := rgT (x2)
    refine Ok.eq (fun c6 => ?_) (fun c6 => ?_)
    · have f7 := rgT (q4.1)
      refine Ok.eq (fun c8 => ?_) (fun c8 => ?_)
      · exact Ok.ret ⟨j, trivial⟩
      · refine Ok.bind (sf_X8_beatOf (h0 := h0) n h 30 x1 (by omega) j sc_30) (fun q8 hq8 => ?_)
        obtain ⟨eq8, xq8⟩ := hq8
        rw [eq8]
        exact Ok.ret ⟨j, trivial⟩
    · have f9 := lit_1
      refine Ok.eq (fun c10 => ?_) (fun c10 => ?_)
      · have f11 := rgT (q4.1)
        refine Ok.eq (fun c12 => ?_) (fun c12 => ?_)
        · exact Ok.ret ⟨j, trivial⟩
        · refine Ok.bind (sf_X8_offsetOf (h0 := h0) n h 30 x1 (by omega) j sc_30) (fun q12 hq12 => ?_)
          obtain ⟨eq12, xq12⟩ := hq12
          rw [eq12]
          exact Ok.ret ⟨j, trivial⟩
      · have f13 := lit_2
        refine Ok.eq (fun c14 => ?_) (fun c14 => ?_)
        · refine Ok.bind (sf_X8_soundsAt (h0 := h0) n h 30 x1 (hi h 30 0) (by omega) j sc_30) (fun q15 hq15 => ?_)
          obtain ⟨eq15, xq15⟩ := hq15
          rw [eq15]
          have f15 := rgT (q15.1)
          refine Ok.eq (fun c16 => ?_) (fun c16 => ?_)
          · exact Ok.ret ⟨j, trivial⟩
          · exact Ok.ret ⟨j, trivial⟩
        · have f17 := lit_3
          refine Ok.eq (fun c18 => ?_) (fun c18 => ?_)
          · refine Ok.bind (sf_X8_isRoped (h0 := h0) n h 30 x1 (by omega) j sc_30) (fun q19 hq19 => ?_)
            obtain ⟨eq19, xq19⟩ := hq19
            rw [eq19]
            have f19 := rgT (q19.1)
            refine Ok.eq (fun c20 => ?_) (fun c20 => ?_)
            · exact Ok.ret ⟨j, trivial⟩
            · exact Ok.ret ⟨j, trivial⟩
          · have f21 := lit_4
            refine Ok.eq (fun c22 => ?_) (fun c22 => ?_)
            · refine Ok.bind (sf_X8_goersIn (h0 := h0) n h 30 x1 (hi h 23 2) (by omega) j sc_30) (fun q23 hq23 => ?_)
              obtain ⟨eq23, xq23⟩ := hq23
              rw [eq23]
              exact Ok.ret ⟨j, trivial⟩
            · have f23 := lit_5
              refine Ok.eq (fun c24 => ?_) (fun c24 => ?_)
              · refine Ok.bind (sf_X0_costOf (h0 := h0) n h 23 30 x1 (by omega) j bd_23 sc_30) (fun q26 hq26 => ?_)
                obtain ⟨jq26, xq26⟩ := hq26
                exact Ok.ret ⟨jq26, trivial⟩
              · exact Ok.ret ⟨j, trivial⟩
set_option maxRecDepth 100000 in
set_option maxHeartbeats 4000000 in
theorem sfW_X3_farthest_7 {h0 : Hp} : ∀ (n : Nat), (∀ (h : Hp) (a : Nat) (l1 : Int32) (l2 : Int32) (l3 : Int32) (l4 : Int32), J h0 h → IsFd a → (1 : Int) < n → (1 : Int) + (25 - l4.toInt) < n → Ok (W_X3_farthest n 7 h a l1 l2 l3 l4) (fun q => q.2 = h ∧ True)) := by
  intro n
  induction n with
  | zero => intro h a l1 l2 l3 l4 j hs hB hM; exfalso; omega
  | succ n ih =>
    intro h a l1 l2 l3 l4 j hs hB hM
    rw [u_X3_farthest]
    refine Ok.pos rfl ?_
    have f1 := lit_25
    have f2 := rgT (l4)
    refine Ok.le (fun c3 => ?_) (fun c3 => ?_)
    · exact Ok.ret ⟨rfl, trivial⟩
    · have f4 := rgT ((l2 : Int32) &&& (((l3 : Int32) ^^^ ((-1) : Int32)) : Int32))
      have f5 := lit_0
      refine Ok.eq (fun c6 => ?_) (fun c6 => ?_)
      · exact Ok.ret ⟨rfl, trivial⟩
      · refine Ok.bind (sf_X3_grown (h0 := h0) n h a l3 (by omega) j hs) (fun q3 hq3 => ?_)
        obtain ⟨eq3, xq3⟩ := hq3
        rw [eq3]
        have f7 := lit_1
        first | have f8 := adT (l4) (1) (by omega) (by omega) | have f8 := adT (l4) (1)
        have f9 := rgT (l4 + 1)
        exact ih h a l1 l2 ((l3 : Int32) ||| (((q3.1 : Int32) &&& (l2 : Int32)) : Int32)) (l4 + 1) j hs  (by omega) (by omega)
end
