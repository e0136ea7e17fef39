/-! the class comes to its end, 8 -/
set_option maxRecDepth 100000 in
set_option maxHeartbeats 4000000 in
theorem sf_X8_isRoped {h0 : Hp} (n : Nat) (h : Hp) (a : Nat) (x1 : Int32) (hn : 1 ≤ n) (j : J h0 h) (hs : Sc a) : Ok (F_X8_isRoped n h a x1) (fun q => q.2 = h ∧ True) := by
  unfold F_X8_isRoped
  have f1 := and_rg (((((hi h a 2) : Int32).toUInt32 >>> ((x1 : Int32).toUInt32 &&& Int32.toUInt32 31)).toInt32) : Int32) (1 : Int32) 1 lit_1 (by decide)
  have f2 := lit_0
  refine Ok.eq (fun c3 => ?_) (fun c3 => ?_)
  · exact Ok.ret ⟨rfl, trivial⟩
  · exact Ok.ret ⟨rfl, trivial⟩
set_option maxRecDepth 100000 in
set_option maxHeartbeats 4000000 in
theorem sf_X11_isFree {h0 : Hp} (n : Nat) (h : Hp) (x1 : Int32) (hn : 1 ≤ n) (j : J h0 h) : Ok (F_X11_isFree n h x1) (fun q => q.2 = h ∧ True) := by
  unfold F_X11_isFree
  refine Ok.bind (sf_X3_has (h0 := h0) n h 24 x1 (by omega) j fd_24) (fun q1 hq1 => ?_)
  obtain ⟨eq1, xq1⟩ := hq1
  rw [eq1]
  have f1 := rgT (q1.1)
  have f2 := lit_0
  refine Ok.eq (fun c3 => ?_) (fun c3 => ?_)
  · exact Ok.ret ⟨rfl, trivial⟩
  · refine Ok.bind (sf_X8_isRoped (h0 := h0) n h 30 x1 (by omega) j sc_30) (fun q4 hq4 => ?_)
    obtain ⟨eq4, xq4⟩ := hq4
    rw [eq4]
    have f4 := rgT (q4.1)
    refine Ok.eq (fun c5 => ?_) (fun c5 => ?_)
    · exact Ok.ret ⟨rfl, trivial⟩
    · exact Ok.ret ⟨rfl, trivial⟩
set_option maxRecDepth 100000 in
set_option maxHeartbeats 4000000 in
theorem sf_X6_clear {h0 : Hp} (n : Nat) (h : Hp) (hn : 1 ≤ n) (j : J h0 h) : Ok (F_X6_clear n h) (fun q => J h0 q ∧ True) := by
  unfold F_X6_clear
  generalize eg1 : wrI h 38 2 0 = g1
  have jg1 : J h0 g1 := JwI eg1 j (by decide)
  exact Ok.ret ⟨jg1, trivial⟩
set_option maxRecDepth 100000 in
set_option maxHeartbeats 4000000 in
theorem sf_X11_restore {h0 : Hp} (n : Nat) (h : Hp) (x1 : Int32) (hn : 1 ≤ n) (j : J h0 h) : Ok (F_X11_restore n h x1) (fun q => J h0 q.2 ∧ True) := by
  unfold F_X11_restore
  have f1 := rgT (x1)
  have f2 := lit_0
  refine Ok.lt (fun c3 => ?_) (fun c3 => ?_)
  · exact Ok.ret ⟨j, trivial⟩
  · have f4 := lit_3
    refine Ok.le (fun c5 => ?_) (fun c5 => ?_)
    · exact Ok.ret ⟨j, trivial⟩
    · have f6 := and_rg (((((hi h 0 10) : Int32).toUInt32 >>> ((x1 : Int32).toUInt32 &&& Int32.toUInt32 31)).toInt32) : Int32) (1 : Int32) 1 lit_1 (by decide)
      refine Ok.eq (fun c7 => ?_) (fun c7 => ?_)
      · exact Ok.ret ⟨j, trivial⟩
      · refine Ok.chk (ixT (by omega) (by omega)) (fun c8 => ?_)
        refine Ok.bind (sf_X8_become (h0 := h0) n h 30 (214 + 4 * (Int32.toNatClampNeg x1)) (by omega) j sc_30 (scSlot (ixO_lt c8))) (fun q5 hq5 => ?_)
        obtain ⟨jq5, xq5⟩ := hq5
        refine Ok.bind (sf_X6_clear (h0 := h0) n q5  (by omega) jq5 ) (fun q7 hq7 => ?_)
        obtain ⟨jq7, xq7⟩ := hq7
        exact Ok.ret ⟨jq7, trivial⟩
set_option maxRecDepth 100000 in
set_option maxHeartbeats 4000000 in
theorem sf_X2_keep {h0 : Hp} (n : Nat) (h : Hp) (x1 : Int32) (x2 : Int32) (hn : 1 ≤ n) (j : J h0 h) : Ok (F_X2_keep n h x1 x2) (fun q => J h0 q.2 ∧ True) := by
  unfold F_X2_keep
  have f1 := lit_20
  have f2 := cR 201 2 0 20 (by decide) j
  have f3 := rgT (hi h 201 2)
  refine Ok.le (fun c4 => ?_) (fun c4 => ?_)
  · exact Ok.ret ⟨j, trivial⟩
  · have f5 := rgT (x1)
    have f6 := lit_0
    refine Ok.lt (fun c7 => ?_) (fun c7 => ?_)
    · exact Ok.ret ⟨j, trivial⟩
    · have f8 := lit_60
      refine Ok.lt (fun c9 => ?_) (fun c9 => ?_)
      · refine Ok.chk (ixT (by omega) (by omega)) (fun c10 => ?_)
        generalize eg11 : wrI h 202 (Int32.toNatClampNeg (hi h 201 2)) (x1 : Int32).toInt8.toInt32 = g11
        have jg11 : J h0 g11 := JwI eg11 j (ncO_nc (by decide))
        have f12 := congrArg Int32.toInt (hiA eg11 201 2 (by decide))
        have f13 := rgT (hi g11 201 2)
        refine Ok.chk (ixT (by omega) (by omega)) (fun c14 => ?_)
        generalize eg15 : wrI g11 203 (Int32.toNatClampNeg (hi g11 201 2)) x2 = g15
        have jg15 : J h0 g15 := JwI eg15 jg11 (ncO_nc (by decide))
        generalize eg16 : wrI g15 201 2 ((hi g15 201 2) + 1) = g16
        have f17 := congrArg Int32.toInt (hiA eg15 201 2 (by decide))
        have f18 := rgT (hi g15 201 2)
        have f19 := lit_1
        first | have f20 := adT (hi g15 201 2) (1) (by omega) (by omega) | have f20 := adT (hi g15 201 2) (1)
        have f21 := rgT ((hi g15 201 2) + 1)
        have jg16 : J h0 g16 := JwC 0 20 eg16 jg15 (by decide) ⟨by omega, by omega⟩ (by decide)
        exact Ok.ret ⟨jg16, trivial⟩
      · exact Ok.ret ⟨j, trivial⟩
set_option maxRecDepth 100000 in
set_option maxHeartbeats 4000000 in
theorem sf_X11_tell {h0 : Hp} (n : Nat) (h : Hp) (x1 : Int32) (x2 : Int32) (hn : 1 ≤ n) (j : J h0 h) : Ok (F_X11_tell n h x1 x2) (fun q => J h0 q.2 ∧ True) := by
  unfold F_X11_tell
  refine Ok.bind (sf_X2_keep (h0 := h0) n h x1 x2 (by omega) j ) (fun q1 hq1 => ?_)
  obtain ⟨jq1, xq1⟩ := hq1
  exact Ok.ret ⟨jq1, trivial⟩
set_option maxRecDepth 100000 in
set_option maxHeartbeats 4000000 in
theorem sf_X0_hasGoer {h0 : Hp} (n : Nat) (h : Hp) (a : Nat) (x1 : Int32) (hn : 1 ≤ n) (j : J h0 h) (hs : IsBd a) : Ok (F_X0_hasGoer n h a x1) (fun q => q.2 = h ∧ (q.1.toInt ≠ 0 → 0 ≤ x1.toInt ∧ x1.toInt < 5)) := by
  unfold F_X0_hasGoer
  have f1 := rgT (x1)
  have f2 := lit_0
  refine Ok.lt (fun c3 => ?_) (fun c3 => ?_)
  · refine Ok.ret ⟨rfl, ?_⟩
    show (((0) : Int32).toInt ≠ 0 → 0 ≤ x1.toInt ∧ x1.toInt < 5)
    omega
  · have f4 := cR a 2 0 5 (bdC hs) j
    have f5 := rgT (hi h a 2)
    refine Ok.le (fun c6 => ?_) (fun c6 => ?_)
    · refine Ok.ret ⟨rfl, ?_⟩
      show (((0) : Int32).toInt ≠ 0 → 0 ≤ x1.toInt ∧ x1.toInt < 5)
      omega
    · have f7 := lit_5
      refine Ok.le (fun c8 => ?_) (fun c8 => ?_)
      · refine Ok.ret ⟨rfl, ?_⟩
        show (((0) : Int32).toInt ≠ 0 → 0 ≤ x1.toInt ∧ x1.toInt < 5)
        omega
      · have f9 := lit_1
        refine Ok.ret ⟨rfl, ?_⟩
        show (((1) : Int32).toInt ≠ 0 → 0 ≤ x1.toInt ∧ x1.toInt < 5)
        omega
set_option maxRecDepth 100000 in
set_option maxHeartbeats 4000000 in
theorem sf_X6_keep {h0 : Hp} (n : Nat) (h : Hp) (b1 : Nat) (hn : 1 ≤ n) (j : J h0 h) (ht1 : Sc b1) : Ok (F_X6_keep n h b1) (fun q => J h0 q ∧ True) := by
  unfold F_X6_keep
  generalize eg1 : wrI h 38 1 (((hi h 38 1) + 1) - ((hi h 38 1) + 1) / 40 * 40) = g1
  have f2 := cR 38 1 0 39 (by decide) j
  have f3 := rgT (hi h 38 1)
  have f4 := lit_1
  first | have f5 := adT (hi h 38 1) (1) (by omega) (by omega) | have f5 := adT (hi h 38 1) (1)
  have f6 := rgT ((hi h 38 1) + 1)
  first | have f7 := rmI ((hi h 38 1) + 1) (40) 40 lit_40 (by decide) (by omega) | have f7 := rmI ((hi h 38 1) + 1) (40) 40 lit_40 (by decide)
  have f8 := rgT (((hi h 38 1) + 1) - ((hi h 38 1) + 1) / 40 * 40)
  have jg1 : J h0 g1 := JwC 0 39 eg1 j (by decide) (rm40 _ (by omega)) (by decide)
  have f9 := congrArg Int32.toInt (hiE eg1)
  have f10 := rgT (hi g1 38 1)
  refine Ok.chk (ixT (by omega) (by omega)) (fun c11 => ?_)
  refine Ok.bind (sf_X8_become (h0 := h0) n g1 (40 + 4 * (Int32.toNatClampNeg (hi g1 38 1))) b1 (by omega) jg1 (scPast (ixO_lt c11)) ht1) (fun q2 hq2 => ?_)
  obtain ⟨jq2, xq2⟩ := hq2
  generalize eg12 : wrI q2 38 2 (if 40 < ((hi q2 38 2) + 1) then 40 else ((hi q2 38 2) + 1)) = g12
  have jg12 : J h0 g12 := JwI eg12 jq2 (by decide)
  exact Ok.ret ⟨jg12, trivial⟩
set_option maxRecDepth 100000 in
set_option maxHeartbeats 4000000 in
theorem sf_X11_carry {h0 : Hp} (n : Nat) (h : Hp) (x1 : Int32) (x2 : Int32) (hn : 1 ≤ n) (j : J h0 h) : Ok (F_X11_carry n h x1 x2) (fun q => J h0 q.2 ∧ True) := by
  unfold F_X11_carry
  have f1 := rgT (x1)
  refine Ok.bind (sf_X0_hasGoer (h0 := h0) n h 23 x1 (by omega) j bd_23) (fun q1 hq1 => ?_)
  obtain ⟨eq1, xq1⟩ := hq1
  rw [eq1]
  have f2 := rgT (q1.1)
  have f3 := lit_0
  refine Ok.eq (fun c4 => ?_) (fun c4 => ?_)
  · exact Ok.ret ⟨j, trivial⟩
  · refine Ok.bind (sf_X3_has (h0 := h0) n h 24 x2 (by omega) j fd_24) (fun q4 hq4 => ?_)
    obtain ⟨eq4, xq4⟩ := hq4
    rw [eq4]
    have f5 := rgT (q4.1)
    refine Ok.eq (fun c6 => ?_) (fun c6 => ?_)
    · exact Ok.ret ⟨j, trivial⟩
    · refine Ok.chk (ixT (by omega) (by omega)) (fun c7 => ?_)
      have f8 := rgT (hi h 32 (Int32.toNatClampNeg x1))
      have f9 := rgT (x2)
      refine Ok.eq (fun c10 => ?_) (fun c10 => ?_)
      · exact Ok.ret ⟨j, trivial⟩
      · refine Ok.bind (sf_X8_isRoped (h0 := h0) n h 30 x2 (by omega) j sc_30) (fun q9 hq9 => ?_)
        obtain ⟨eq9, xq9⟩ := hq9
        rw [eq9]
        have f11 := rgT (q9.1)
        refine Ok.eq (fun c12 => ?_) (fun c12 => ?_)
        · refine Ok.bind (sf_X6_keep (h0 := h0) n h 30 (by omega) j sc_30) (fun q12 hq12 => ?_)
          obtain ⟨jq12, xq12⟩ := hq12
          refine Ok.pos c7 ?_
          generalize eg13 : wrI q12 32 (Int32.toNatClampNeg x1) x2 = g13
          have jg13 : J h0 g13 := JwI eg13 jq12 (ncO_nc (by decide))
          exact Ok.ret ⟨jg13, trivial⟩
        · exact Ok.ret ⟨j, trivial⟩
set_option maxRecDepth 100000 in
set_option maxHeartbeats 4000000 in
theorem sf_X8_isTuned {h0 : Hp} (n : Nat) (h : Hp) (a : Nat) (x1 : Int32) (hn : 1 ≤ n) (j : J h0 h) (hs : Sc a) : Ok (F_X8_isTuned n h a x1) (fun q => q.2 = h ∧ (q.1.toInt ≠ 0 → 0 ≤ x1.toInt ∧ x1.toInt < 25)) := by
  unfold F_X8_isTuned
  have f1 := rgT (x1)
  have f2 := lit_0
  refine Ok.lt (fun c3 => ?_) (fun c3 => ?_)
  · refine Ok.ret ⟨rfl, ?_⟩
    show (((0) : Int32).toInt ≠ 0 → 0 ≤ x1.toInt ∧ x1.toInt < 25)
    omega
  · have f4 := lit_25
    refine Ok.le (fun c5 => ?_) (fun c5 => ?_)
    · refine Ok.ret ⟨rfl, ?_⟩
      show (((0) : Int32).toInt ≠ 0 → 0 ≤ x1.toInt ∧ x1.toInt < 25)
      omega
    · have f6 := and_rg (((((hi h a 3) : Int32).toUInt32 >>> ((x1 : Int32).toUInt32 &&& Int32.toUInt32 31)).toInt32) : Int32) (1 : Int32) 1 lit_1 (by decide)
      refine Ok.eq (fun c7 => ?_) (fun c7 => ?_)
      · refine Ok.ret ⟨rfl, ?_⟩
        show (((0) : Int32).toInt ≠ 0 → 0 ≤ x1.toInt ∧ x1.toInt < 25)
        omega
      · have f8 := lit_1
        refine Ok.ret ⟨rfl, ?_⟩
        show (((1) : Int32).toInt ≠ 0 → 0 ≤ x1.toInt ∧ x1.toInt < 25)
        omega
set_option maxRecDepth 100000 in
set_option maxHeartbeats 4000000 in
theorem sf_X8_beatOf {h0 : Hp} (n : Nat) (h : Hp) (a : Nat) (x1 : Int32) (hn : 1 ≤ n) (j : J h0 h) (hs : Sc a) : Ok (F_X8_beatOf n h a x1) (fun q => q.2 = h ∧ q.1.toInt ≤ 15) := by
  unfold F_X8_beatOf
  have f1 := rgT (x1)
  refine Ok.bind (sf_X8_isTuned (h0 := h0) n h a x1 (by omega) j hs) (fun q1 hq1 => ?_)
  obtain ⟨eq1, xq1⟩ := hq1
  rw [eq1]
  have f2 := rgT (q1.1)
  have f3 := lit_0
  refine Ok.eq (fun c4 => ?_) (fun c4 => ?_)
  · refine Ok.ret ⟨rfl, ?_⟩
    show ((0) : Int32).toInt ≤ 15
    omega
  · refine Ok.chk (ixT (by omega) (by omega)) (fun c5 => ?_)
    have f6 := byT (hi h (a + 1) (Int32.toNatClampNeg x1))
    have f7 := shr3T ((vp_nar .byte (hi h (a + 1) (Int32.toNatClampNeg x1))) : Int32)
    refine Ok.ret ⟨rfl, ?_⟩
    show ((((vp_nar .byte (hi h (a + 1) (Int32.toNatClampNeg x1))) : Int32) >>> ((3 : Int32) &&& 31)) : Int32).toInt ≤ 15
    omega
set_option maxRecDepth 100000 in
set_option maxHeartbeats 4000000 in
theorem sf_X8_offsetOf {h0 : Hp} (n : Nat) (h : Hp) (a : Nat) (x1 : Int32) (hn : 1 ≤ n) (j : J h0 h) (hs : Sc a) : Ok (F_X8_offsetOf n h a x1) (fun q => q.2 = h ∧ (0 ≤ q.1.toInt ∧ q.1.toInt ≤ 7)) := by
  unfold F_X8_offsetOf
  have f1 := rgT (x1)
  refine Ok.bind (sf_X8_isTuned (h0 := h0) n h a x1 (by omega) j hs) (fun q1 hq1 => ?_)
  obtain ⟨eq1, xq1⟩ := hq1
  rw [eq1]
  have f2 := rgT (q1.1)
  have f3 := lit_0
  refine Ok.eq (fun c4 => ?_) (fun c4 => ?_)
  · refine Ok.ret ⟨rfl, ?_⟩
    show (0 ≤ ((0) : Int32).toInt ∧ ((0) : Int32).toInt ≤ 7)
    omega
  · refine Ok.chk (ixT (by omega) (by omega)) (fun c5 => ?_)
    have f6 := and_rg ((vp_nar .byte (hi h (a + 1) (Int32.toNatClampNeg x1))) : Int32) (7 : Int32) 7 lit_7 (by decide)
    refine Ok.ret ⟨rfl, ?_⟩
    show (0 ≤ ((((vp_nar .byte (hi h (a + 1) (Int32.toNatClampNeg x1))) : Int32) &&& (7 : Int32)) : Int32).toInt ∧ ((((vp_nar .byte (hi h (a + 1) (Int32.toNatClampNeg x1))) : Int32) &&& (7 : Int32)) : Int32).toInt ≤ 7)
    omega
set_option maxRecDepth 100000 in
set_option maxHeartbeats 4000000 in
theorem sf_X8_soundsAt {h0 : Hp} (n : Nat) (h : Hp) (a : Nat) (x1 : Int32) (x2 : Int32) (hn : 1 ≤ n) (j : J h0 h) (hs : Sc a) : Ok (F_X8_soundsAt n h a x1 x2) (fun q => q.2 = h ∧ True) := by
  unfold F_X8_soundsAt
  refine Ok.bind (sf_X8_beatOf (h0 := h0) n h a x1 (by omega) j hs) (fun q1 hq1 => ?_)
  obtain ⟨eq1, xq1⟩ := hq1
  rw [eq1]
  have f1 := rgT (q1.1)
  have f2 := lit_0
  refine Ok.le (fun c3 => ?_) (fun c3 => ?_)
  · exact Ok.ret ⟨rfl, trivial⟩
  · refine Ok.div (by omega) ?_
    refine Ok.bind (sf_X8_offsetOf (h0 := h0) n h a x1 (by omega) j hs) (fun q5 hq5 => ?_)
    obtain ⟨eq5, xq5⟩ := hq5
    rw [eq5]
    have f5 := rgT (x2 - x2 / q1.1 * q1.1)
    have f6 := rgT (q5.1)
    refine Ok.eq (fun c7 => ?_) (fun c7 => ?_)
    · exact Ok.ret ⟨rfl, trivial⟩
    · exact Ok.ret ⟨rfl, trivial⟩
set_option maxRecDepth 100000 in
set_option maxHeartbeats 4000000 in
theorem sfW_X8_goersIn_5 {h0 : Hp} : ∀ (n : Nat), (∀ (h : Hp) (a : Nat) (l1 : Int32) (l2 : Int32) (l3 : Int32) (l4 : Int32), J h0 h → Sc a → 0 ≤ l4.toInt → (1 : Int) < n → (1 : Int) + (5 - l4.toInt) < n → Ok (W_X8_goersIn n 5 h a l1 l2 l3 l4) (fun q => q.2 = h ∧ True)) := by
  intro n
  induction n with
  | zero => intro h a l1 l2 l3 l4 j hs i0 hB hM; exfalso; omega
  | succ n ih =>
    intro h a l1 l2 l3 l4 j hs i0 hB hM
    rw [u_X8_goersIn]
    refine Ok.pos rfl ?_
    have f1 := rgT (l2)
    have f2 := rgT (l4)
    refine Ok.le (fun c3 => ?_) (fun c3 => ?_)
    · exact Ok.ret ⟨rfl, trivial⟩
    · have f4 := lit_5
      refine Ok.le (fun c5 => ?_) (fun c5 => ?_)
      · exact Ok.ret ⟨rfl, trivial⟩
      · refine Ok.chk (ixT (by omega) (by omega)) (fun c6 => ?_)
        have f7 := rgT (hi h (a + 2) (Int32.toNatClampNeg l4))
        have f8 := rgT (l1)
        refine Ok.eq (fun c9 => ?_) (fun c9 => ?_)
        · have f10 := lit_1
          first | have f11 := adT (l4) (1) (by omega) (by omega) | have f11 := adT (l4) (1)
          have f12 := rgT (l4 + 1)
          exact ih h a l1 l2 ((l3 : Int32) ||| (((1 : Int32) <<< ((l4 : Int32) &&& 31)) : Int32)) (l4 + 1) j hs (by omega) (by omega) (by omega)
        · have f13 := lit_1
          first | have f14 := adT (l4) (1) (by omega) (by omega) | have f14 := adT (l4) (1)
          have f15 := rgT (l4 + 1)
          exact ih h a l1 l2 l3 (l4 + 1) j hs (by omega) (by omega) (by omega)
set_option maxRecDepth 100000 in
set_option maxHeartbeats 4000000 in
theorem sf_X8_goersIn {h0 : Hp} (n : Nat) (h : Hp) (a : Nat) (x1 : Int32) (x2 : Int32) (hn : 17179869185 ≤ n) (j : J h0 h) (hs : Sc a) : Ok (F_X8_goersIn n h a x1 x2) (fun q => q.2 = h ∧ True) := by
  unfold F_X8_goersIn
  have f1 := lit_0
  exact sfW_X8_goersIn_5 (h0 := h0) n h a x1 x2 0 0 j hs (by omega) (by omega) (by omega)
set_option maxRecDepth 100000 in
set_option maxHeartbeats 4000000 in
theorem sf_X3_leftOf {h0 : Hp} (n : Nat) (h : Hp) (a : Nat) (x1 : Int32) (hn : 1 ≤ n) (j : J h0 h) (hs : IsFd a) : Ok (F_X3_leftOf n h a x1) (fun q => q.2 = h ∧ True) := by
  unfold F_X3_leftOf
  have f1 := rgT (hi h a 0)
  have f2 := lit_0
  refine Ok.le (fun c3 => ?_) (fun c3 => ?_)
  · exact Ok.ret ⟨rfl, trivial⟩
  · refine Ok.div (by omega) ?_
    exact Ok.ret ⟨rfl, trivial⟩
set_option maxRecDepth 100000 in
set_option maxHeartbeats 4000000 in
theorem sf_X3_topOf {h0 : Hp} (n : Nat) (h : Hp) (a : Nat) (x1 : Int32) (hn : 1 ≤ n) (j : J h0 h) (hs : IsFd a) : Ok (F_X3_topOf n h a x1) (fun q => q.2 = h ∧ True) := by
  unfold F_X3_topOf
  have f1 := rgT (hi h a 0)
  have f2 := lit_0
  refine Ok.le (fun c3 => ?_) (fun c3 => ?_)
  · exact Ok.ret ⟨rfl, trivial⟩
  · refine Ok.div (by omega) ?_
    exact Ok.ret ⟨rfl, trivial⟩
set_option maxRecDepth 100000 in
set_option maxHeartbeats 4000000 in
theorem sf_X4_elseOf {h0 : Hp} (n : Nat) (h : Hp) (a : Nat) (x1 : Int32) (hn : 1 ≤ n) (j : J h0 h) (hs : IsLw a) : Ok (F_X4_elseOf n h a x1) (fun q => q.2 = h ∧ True) := by
  unfold F_X4_elseOf
  have f1 := rgT (x1)
  have f2 := lit_0
  refine Ok.lt (fun c3 => ?_) (fun c3 => ?_)
  · exact Ok.ret ⟨rfl, trivial⟩
  · have f4 := cR a 3 0 404 (lwC hs) j
    have f5 := rgT (hi h a 3)
    refine Ok.le (fun c6 => ?_) (fun c6 => ?_)
    · exact Ok.ret ⟨rfl, trivial⟩
    · refine Ok.chk (ixT (by omega) (by omega)) (fun c7 => ?_)
      exact Ok.ret ⟨rfl, trivial⟩
