/-! the class comes to its end, 10 -/
set_option maxRecDepth 100000 in
set_option maxHeartbeats 4000000 in
theorem sf_X3_farthest {h0 : Hp} (n : Nat) (h : Hp) (a : Nat) (x1 : Int32) (x2 : Int32) (hn : 17179869185 ≤ n) (j : J h0 h) (hs : IsFd a) : Ok (F_X3_farthest n h a x1 x2) (fun q => q.2 = h ∧ True) := by
  unfold F_X3_farthest
  have f1 := lit_0
  exact sfW_X3_farthest_7 (h0 := h0) n h a x1 x2 ((1 : Int32) <<< ((x1 : Int32) &&& 31)) 0 j hs  (by omega) (by omega)
set_option maxRecDepth 100000 in
set_option maxHeartbeats 4000000 in
theorem sfW_X11_centre_37 {h0 : Hp} : ∀ (n : Nat), (∀ (h : Hp) (l1 : Int32) (l2 : Int32) (l3 : Int32) (l4 : Int32) (l5 : Int32), J h0 h → (17179869185 : Int) < n → (17179869185 : Int) + (25 - l5.toInt) < n → Ok (W_X11_centre n 37 h l1 l2 l3 l4 l5) (fun q => q.2 = h ∧ True)) := by
  intro n
  induction n with
  | zero => intro h l1 l2 l3 l4 l5 j hB hM; exfalso; omega
  | succ n ih =>
    intro h l1 l2 l3 l4 l5 j hB hM
    rw [u_X11_centre]
    refine Ok.pos rfl ?_
    have f1 := lit_25
    have f2 := rgT (l5)
    refine Ok.le (fun c3 => ?_) (fun c3 => ?_)
    · have f4 := rgT (l1)
      have f5 := lit_0
      refine Ok.eq (fun c6 => ?_) (fun c6 => ?_)
      · exact Ok.ret ⟨rfl, trivial⟩
      · exact Ok.ret ⟨rfl, trivial⟩
    · have f7 := and_rg ((((l2 : Int32).toUInt32 >>> ((l5 : Int32).toUInt32 &&& Int32.toUInt32 31)).toInt32) : Int32) (1 : Int32) 1 lit_1 (by decide)
      have f8 := lit_0
      refine Ok.eq (fun c9 => ?_) (fun c9 => ?_)
      · have f10 := lit_1
        first | have f11 := adT (l5) (1) (by omega) (by omega) | have f11 := adT (l5) (1)
        have f12 := rgT (l5 + 1)
        exact ih h l1 l2 l3 l4 (l5 + 1) j   (by omega) (by omega)
      · refine Ok.bind (sf_X3_farthest (h0 := h0) n h 24 l5 l2 (by omega) j fd_24) (fun q4 hq4 => ?_)
        obtain ⟨eq4, xq4⟩ := hq4
        rw [eq4]
        have f13 := rgT (l3)
        refine Ok.eqV rfl lit_m2 (fun c14 => ?_) (fun c14 => ?_)
        · have f15 := lit_1
          first | have f16 := adT (l5) (1) (by omega) (by omega) | have f16 := adT (l5) (1)
          have f17 := rgT (l5 + 1)
          exact ih h l1 l2 l5 q4.1 (l5 + 1) j   (by omega) (by omega)
        · have f18 := rgT (l4)
          have f19 := rgT (q4.1)
          refine Ok.le (fun c20 => ?_) (fun c20 => ?_)
          · have f21 := lit_1
            first | have f22 := adT (l5) (1) (by omega) (by omega) | have f22 := adT (l5) (1)
            have f23 := rgT (l5 + 1)
            exact ih h l1 l2 l3 l4 (l5 + 1) j   (by omega) (by omega)
          · have f24 := lit_1
            first | have f25 := adT (l5) (1) (by omega) (by omega) | have f25 := adT (l5) (1)
            have f26 := rgT (l5 + 1)
            exact ih h l1 l2 l5 q4.1 (l5 + 1) j   (by omega) (by omega)
set_option maxRecDepth 100000 in
set_option maxHeartbeats 4000000 in
theorem sf_X11_centre {h0 : Hp} (n : Nat) (h : Hp) (x1 : Int32) (hn : 34359738369 ≤ n) (j : J h0 h) : Ok (F_X11_centre n h x1) (fun q => q.2 = h ∧ True) := by
  unfold F_X11_centre
  refine Ok.bind (sf_X11_isNoughtOrOne (h0 := h0) n h x1 (by omega) j ) (fun q8 hq8 => ?_)
  obtain ⟨eq8, xq8⟩ := hq8
  rw [eq8]
  have f1 := rgT (q8.1)
  have f2 := lit_0
  refine Ok.eq (fun c3 => ?_) (fun c3 => ?_)
  · exact Ok.ret ⟨rfl, trivial⟩
  · exact sfW_X11_centre_37 (h0 := h0) n h x1 (((hi h 24 2) : Int32) &&& ((((hi h 30 2) : Int32) ^^^ ((-1) : Int32)) : Int32)) (-2) (-2) 0 j   (by omega) (by omega)
set_option maxRecDepth 100000 in
set_option maxHeartbeats 4000000 in
theorem sfW_X11_costsOfTunes_4 {h0 : Hp} : ∀ (n : Nat), (∀ (h : Hp) (l1 : Int32) (l2 : Int32), J h0 h → (17179869185 : Int) < n → (17179869185 : Int) + (25 - l2.toInt) < n → Ok (W_X11_costsOfTunes n 4 h l1 l2) (fun q => J h0 q.2 ∧ True)) := by
  intro n
  induction n with
  | zero => intro h l1 l2 j hB hM; exfalso; omega
  | succ n ih =>
    intro h l1 l2 j hB hM
    rw [u_X11_costsOfTunes]
    refine Ok.pos rfl ?_
    have f1 := lit_25
    have f2 := rgT (l2)
    refine Ok.le (fun c3 => ?_) (fun c3 => ?_)
    · exact Ok.ret ⟨j, trivial⟩
    · refine Ok.bind (sf_X8_isTuned (h0 := h0) n h 30 l2 (by omega) j sc_30) (fun q2 hq2 => ?_)
      obtain ⟨eq2, xq2⟩ := hq2
      rw [eq2]
      have f4 := rgT (q2.1)
      have f5 := lit_0
      refine Ok.eq (fun c6 => ?_) (fun c6 => ?_)
      · have f7 := lit_1
        first | have f8 := adT (l2) (1) (by omega) (by omega) | have f8 := adT (l2) (1)
        have f9 := rgT (l2 + 1)
        exact ih h l1 (l2 + 1) j   (by omega) (by omega)
      · refine Ok.bind (sf_X0_costOf (h0 := h0) n h 23 30 l2 (by omega) j bd_23 sc_30) (fun q5 hq5 => ?_)
        obtain ⟨jq5, xq5⟩ := hq5
        have f10 := lit_1
        first | have f11 := adT (l2) (1) (by omega) (by omega) | have f11 := adT (l2) (1)
        have f12 := rgT (l2 + 1)
        exact ih q5.2 (l1 + q5.1) (l2 + 1) jq5   (by omega) (by omega)
set_option maxRecDepth 100000 in
set_option maxHeartbeats 4000000 in
theorem sf_X11_costsOfTunes {h0 : Hp} (n : Nat) (h : Hp) (hn : 34359738369 ≤ n) (j : J h0 h) : Ok (F_X11_costsOfTunes n h) (fun q => J h0 q.2 ∧ True) := by
  unfold F_X11_costsOfTunes
  have f1 := lit_0
  exact sfW_X11_costsOfTunes_4 (h0 := h0) n h 0 0 j   (by omega) (by omega)
set_option maxRecDepth 100000 in
set_option maxHeartbeats 4000000 in
theorem sf_X2_knows {h0 : Hp} (n : Nat) (h : Hp) (x1 : Int32) (hn : 1 ≤ n) (j : J h0 h) : Ok (F_X2_knows n h x1) (fun q => q.2 = h ∧ True) := by
  unfold F_X2_knows
  have f1 := rgT (x1)
  have f2 := lit_0
  refine Ok.lt (fun c3 => ?_) (fun c3 => ?_)
  · exact Ok.ret ⟨rfl, trivial⟩
  · have f4 := cR 201 2 0 20 (by decide) j
    have f5 := rgT (hi h 201 2)
    refine Ok.lt (fun c6 => ?_) (fun c6 => ?_)
    · exact Ok.ret ⟨rfl, trivial⟩
    · exact Ok.ret ⟨rfl, trivial⟩
set_option maxRecDepth 100000 in
set_option maxHeartbeats 4000000 in
theorem sfW_X2_soundingAt_6 {h0 : Hp} : ∀ (n : Nat), (∀ (h : Hp) (l0 : Int32) (l1 : Int32) (l2 : Int32) (l3 : Int32), J h0 h → 2 ≤ l3.toInt → (1 : Int) < n → (1 : Int) + (7 - l3.toInt) < n → Ok (W_X2_soundingAt n 6 h l0 l1 l2 l3) (fun q => q.2 = h ∧ True)) := by
  intro n
  induction n with
  | zero => intro h l0 l1 l2 l3 j i0 hB hM; exfalso; omega
  | succ n ih =>
    intro h l0 l1 l2 l3 j i0 hB hM
    rw [u_X2_soundingAt]
    refine Ok.pos rfl ?_
    have f1 := lit_6
    have f2 := rgT (l3)
    refine Ok.lt (fun c3 => ?_) (fun c3 => ?_)
    · exact Ok.ret ⟨rfl, trivial⟩
    · have f4 := lit_0
      refine Ok.div (by omega) ?_
      have f6 := lit_1
      first | have f7 := adT (l3) (1) (by omega) (by omega) | have f7 := adT (l3) (1)
      have f8 := rgT (l3 + 1)
      exact ih h l0 ((l1 : Int32) ||| (((1 : Int32) <<< (((l2 + (l0 - l0 / l3 * l3)) : Int32) &&& 31)) : Int32)) (l2 + l3) (l3 + 1) j  (by omega) (by omega) (by omega)
set_option maxRecDepth 100000 in
set_option maxHeartbeats 4000000 in
theorem sf_X2_soundingAt {h0 : Hp} (n : Nat) (h : Hp) (x1 : Int32) (hn : 17179869185 ≤ n) (j : J h0 h) : Ok (F_X2_soundingAt n h x1) (fun q => q.2 = h ∧ True) := by
  unfold F_X2_soundingAt
  have f1 := lit_2
  exact sfW_X2_soundingAt_6 (h0 := h0) n h x1 0 0 2 j  (by omega) (by omega) (by omega)
set_option maxRecDepth 100000 in
set_option maxHeartbeats 4000000 in
theorem sfW_X2_fitting_5 {h0 : Hp} : ∀ (n : Nat), (∀ (h : Hp) (l1 : Int32) (l2 : Int32) (l3 : Int32), J h0 h → 0 ≤ l3.toInt → (17179869185 : Int) < n → (17179869185 : Int) + (20 - l3.toInt) < n → Ok (W_X2_fitting n 5 h l1 l2 l3) (fun q => q.2 = h ∧ True)) := by
  intro n
  induction n with
  | zero => intro h l1 l2 l3 j i0 hB hM; exfalso; omega
  | succ n ih =>
    intro h l1 l2 l3 j i0 hB hM
    rw [u_X2_fitting]
    refine Ok.pos rfl ?_
    have f1 := rgT (l1)
    have f2 := rgT (l3)
    refine Ok.le (fun c3 => ?_) (fun c3 => ?_)
    · exact Ok.ret ⟨rfl, trivial⟩
    · have f4 := cR 201 2 0 20 (by decide) j
      have f5 := rgT (hi h 201 2)
      refine Ok.le (fun c6 => ?_) (fun c6 => ?_)
      · exact Ok.ret ⟨rfl, trivial⟩
      · have f7 := lit_20
        refine Ok.le (fun c8 => ?_) (fun c8 => ?_)
        · exact Ok.ret ⟨rfl, trivial⟩
        · refine Ok.chk (ixT (by omega) (by omega)) (fun c9 => ?_)
          refine Ok.bind (sf_X2_soundingAt (h0 := h0) n h (vp_nar .byte (hi h 202 (Int32.toNatClampNeg l3))) (by omega) j ) (fun q5 hq5 => ?_)
          obtain ⟨eq5, xq5⟩ := hq5
          rw [eq5]
          refine Ok.pos c9 ?_
          have f10 := boT (hi h 203 (Int32.toNatClampNeg l3))
          have f11 := lit_0
          refine Ok.eq (fun c12 => ?_) (fun c12 => ?_)
          · have f13 := lit_1
            first | have f14 := adT (l3) (1) (by omega) (by omega) | have f14 := adT (l3) (1)
            have f15 := rgT (l3 + 1)
            exact ih h l1 ((l2 : Int32) &&& (((q5.1 : Int32) ^^^ ((-1) : Int32)) : Int32)) (l3 + 1) j  (by omega) (by omega) (by omega)
          · have f16 := lit_1
            first | have f17 := adT (l3) (1) (by omega) (by omega) | have f17 := adT (l3) (1)
            have f18 := rgT (l3 + 1)
            exact ih h l1 ((l2 : Int32) &&& (q5.1 : Int32)) (l3 + 1) j  (by omega) (by omega) (by omega)
set_option maxRecDepth 100000 in
set_option maxHeartbeats 4000000 in
theorem sf_X2_fitting {h0 : Hp} (n : Nat) (h : Hp) (x1 : Int32) (hn : 34359738369 ≤ n) (j : J h0 h) : Ok (F_X2_fitting n h x1) (fun q => q.2 = h ∧ True) := by
  unfold F_X2_fitting
  have f1 := lit_0
  exact sfW_X2_fitting_5 (h0 := h0) n h x1 1048575 0 j  (by omega) (by omega) (by omega)
set_option maxRecDepth 100000 in
set_option maxHeartbeats 4000000 in
theorem sfW_X2_firstTune_9 {h0 : Hp} : ∀ (n : Nat), (∀ (h : Hp) (l0 : Int32) (l1 : Int32) (l2 : Int32) (l3 : Int32), J h0 h → (1 : Int) < n → (1 : Int) + (7 - l3.toInt) < n → Ok (W_X2_firstTune n 9 h l0 l1 l2 l3) (fun q => q.2 = h ∧ True)) := by
  intro n
  induction n with
  | zero => intro h l0 l1 l2 l3 j hB hM; exfalso; omega
  | succ n ih =>
    intro h l0 l1 l2 l3 j hB hM
    rw [u_X2_firstTune]
    refine Ok.pos rfl ?_
    have f1 := lit_6
    have f2 := rgT (l3)
    refine Ok.lt (fun c3 => ?_) (fun c3 => ?_)
    · exact Ok.ret ⟨rfl, trivial⟩
    · have f4 := rgT (l1)
      first | have f5 := adT (l1) (l3) (by omega) (by omega) | have f5 := adT (l1) (l3)
      have f6 := rgT (l1 + l3)
      have f7 := rgT (l2)
      refine Ok.le (fun c8 => ?_) (fun c8 => ?_)
      · have f9 := lit_1
        first | have f10 := adT (l3) (1) (by omega) (by omega) | have f10 := adT (l3) (1)
        have f11 := rgT (l3 + 1)
        exact ih h l0 (l1 + l3) l2 (l3 + 1) j   (by omega) (by omega)
      · exact Ok.ret ⟨rfl, trivial⟩
set_option maxRecDepth 100000 in
set_option maxHeartbeats 4000000 in
theorem sf_X2_firstTune {h0 : Hp} (n : Nat) (h : Hp) (x1 : Int32) (hn : 17179869185 ≤ n) (j : J h0 h) : Ok (F_X2_firstTune n h x1) (fun q => q.2 = h ∧ True) := by
  unfold F_X2_firstTune
  refine Ok.bind (sf_X11_lowest (h0 := h0) n h x1 (by omega) j ) (fun q3 hq3 => ?_)
  obtain ⟨eq3, xq3⟩ := hq3
  rw [eq3]
  have f1 := lit_2
  exact sfW_X2_firstTune_9 (h0 := h0) n h x1 0 q3.1 2 j   (by omega) (by omega)
set_option maxRecDepth 100000 in
set_option maxHeartbeats 4000000 in
theorem sf_X11_fits {h0 : Hp} (n : Nat) (h : Hp) (x1 : Int32) (x2 : Int32) (hn : 34359738369 ≤ n) (j : J h0 h) : Ok (F_X11_fits n h x1 x2) (fun q => q.2 = h ∧ True) := by
  unfold F_X11_fits
  refine Ok.bind (sf_X2_knows (h0 := h0) n h x1 (by omega) j ) (fun q1 hq1 => ?_)
  obtain ⟨eq1, xq1⟩ := hq1
  rw [eq1]
  have f1 := rgT (q1.1)
  have f2 := lit_0
  refine Ok.eq (fun c3 => ?_) (fun c3 => ?_)
  · exact Ok.ret ⟨rfl, trivial⟩
  · refine Ok.bind (sf_X11_isNoughtOrOne (h0 := h0) n h x2 (by omega) j ) (fun q4 hq4 => ?_)
    obtain ⟨eq4, xq4⟩ := hq4
    rw [eq4]
    have f4 := rgT (q4.1)
    refine Ok.eq (fun c5 => ?_) (fun c5 => ?_)
    · exact Ok.ret ⟨rfl, trivial⟩
    · refine Ok.bind (sf_X2_fitting (h0 := h0) n h x1 (by omega) j ) (fun q7 hq7 => ?_)
      obtain ⟨eq7, xq7⟩ := hq7
      rw [eq7]
      have f6 := rgT (x2)
      refine Ok.eq (fun c7 => ?_) (fun c7 => ?_)
      · refine Ok.bind (sf_J6_bitCount_0f7a4 (h0 := h0) n h q7.1 (by omega) j ) (fun q12 hq12 => ?_)
        obtain ⟨eq12, xq12⟩ := hq12
        rw [eq12]
        exact Ok.ret ⟨rfl, trivial⟩
      · refine Ok.bind (sf_X2_firstTune (h0 := h0) n h q7.1 (by omega) j ) (fun q10 hq10 => ?_)
        obtain ⟨eq10, xq10⟩ := hq10
        rw [eq10]
        exact Ok.ret ⟨rfl, trivial⟩
set_option maxRecDepth 100000 in
set_option maxHeartbeats 4000000 in
theorem sf_X3_beside {h0 : Hp} (n : Nat) (h : Hp) (a : Nat) (x1 : Int32) (x2 : Int32) (hn : 1 ≤ n) (j : J h0 h) (hs : IsFd a) : Ok (F_X3_beside n h a x1 x2) (fun q => q.2 = h ∧ True) := by
  unfold F_X3_beside
  refine Ok.bind (sf_X3_leftOf (h0 := h0) n h a x1 (by omega) j hs) (fun q1 hq1 => ?_)
  obtain ⟨eq1, xq1⟩ := hq1
  rw [eq1]
  refine Ok.bind (sf_X3_topOf (h0 := h0) n h a x1 (by omega) j hs) (fun q3 hq3 => ?_)
  obtain ⟨eq3, xq3⟩ := hq3
  rw [eq3]
  have f1 := rgT (x2)
  have f2 := lit_1
  refine Ok.eq (fun c3 => ?_) (fun c3 => ?_)
  · have f4 := rgT (hi h a 0)
    have f5 := rgT (q1.1)
    first | have f6 := adT (q1.1) (1) (by omega) (by omega) | have f6 := adT (q1.1) (1)
    have f7 := rgT (q1.1 + 1)
    refine Ok.le (fun c8 => ?_) (fun c8 => ?_)
    · exact Ok.ret ⟨rfl, trivial⟩
    · exact Ok.ret ⟨rfl, trivial⟩
  · have f9 := lit_2
    refine Ok.eq (fun c10 => ?_) (fun c10 => ?_)
    · have f11 := rgT (hi h a 1)
      have f12 := rgT (q3.1)
      first | have f13 := adT (q3.1) (1) (by omega) (by omega) | have f13 := adT (q3.1) (1)
      have f14 := rgT (q3.1 + 1)
      refine Ok.le (fun c15 => ?_) (fun c15 => ?_)
      · exact Ok.ret ⟨rfl, trivial⟩
      · exact Ok.ret ⟨rfl, trivial⟩
    · have f16 := lit_3
      refine Ok.eq (fun c17 => ?_) (fun c17 => ?_)
      · have f18 := rgT (q1.1)
        have f19 := lit_0
        refine Ok.le (fun c20 => ?_) (fun c20 => ?_)
        · exact Ok.ret ⟨rfl, trivial⟩
        · exact Ok.ret ⟨rfl, trivial⟩
      · have f21 := lit_4
        refine Ok.eq (fun c22 => ?_) (fun c22 => ?_)
        · have f23 := rgT (q3.1)
          have f24 := lit_0
          refine Ok.le (fun c25 => ?_) (fun c25 => ?_)
          · exact Ok.ret ⟨rfl, trivial⟩
          · exact Ok.ret ⟨rfl, trivial⟩
        · exact Ok.ret ⟨rfl, trivial⟩
set_option maxRecDepth 100000 in
set_option maxHeartbeats 4000000 in
theorem sf_X0_whereTo {h0 : Hp} (n : Nat) (h : Hp) (a : Nat) (b1 : Nat) (x2 : Int32) (x3 : Int32) (hn : 17179869185 ≤ n) (j : J h0 h) (hs : IsBd a) (ht1 : Sc b1) : Ok (F_X0_whereTo n h a b1 x2 x3) (fun q => J h0 q.2 ∧ True) := by
  unfold F_X0_whereTo
  have f1 := rgT (x3)
  refine Ok.bind (sf_X0_hasGoer (h0 := h0) n h a x3 (by omega) j hs) (fun q1 hq1 => ?_)
  obtain ⟨eq1, xq1⟩ := hq1
  rw [eq1]
  have f2 := rgT (q1.1)
  have f3 := lit_0
  refine Ok.eq (fun c4 => ?_) (fun c4 => ?_)
  · exact Ok.ret ⟨j, trivial⟩
  · refine Ok.chk (ixT (by omega) (by omega)) (fun c5 => ?_)
    refine Ok.pos c5 ?_
    refine Ok.bind (sf_X0_ask (h0 := h0) n h a b1 x2 (hi h (b1 + 2) (Int32.toNatClampNeg x3)) (hi h (b1 + 3) (Int32.toNatClampNeg x3)) x3 (by omega) j hs ht1) (fun q6 hq6 => ?_)
    obtain ⟨jq6, xq6⟩ := hq6
    refine Ok.bind (sf_X3_beside (h0 := h0) n q6.2 (a + 1) (hi h (b1 + 2) (Int32.toNatClampNeg x3)) ((if 0 < q6.1 then q6.1 else 0) - (if 0 < q6.1 then q6.1 else 0) / 5 * 5) (by omega) jq6 hs.2.1) (fun q8 hq8 => ?_)
    obtain ⟨eq8, xq8⟩ := hq8
    rw [eq8]
    refine Ok.bind (sf_X8_isRoped (h0 := h0) n q6.2 b1 q8.1 (by omega) jq6 ht1) (fun q10 hq10 => ?_)
    obtain ⟨eq10, xq10⟩ := hq10
    rw [eq10]
    have f6 := rgT (q10.1)
    refine Ok.eq (fun c7 => ?_) (fun c7 => ?_)
    · exact Ok.ret ⟨jq6, trivial⟩
    · exact Ok.ret ⟨jq6, trivial⟩
set_option maxRecDepth 100000 in
set_option maxHeartbeats 4000000 in
theorem sf_X11_goer {h0 : Hp} (n : Nat) (h : Hp) (x1 : Int32) (x2 : Int32) (hn : 17179869185 ≤ n) (j : J h0 h) : Ok (F_X11_goer n h x1 x2) (fun q => J h0 q.2 ∧ True) := by
  unfold F_X11_goer
  have f1 := rgT (x1)
  refine Ok.bind (sf_X0_hasGoer (h0 := h0) n h 23 x1 (by omega) j bd_23) (fun q1 hq1 => ?_)
  obtain ⟨eq1, xq1⟩ := hq1
  rw [eq1]
  have f2 := rgT (q1.1)
  have f3 := lit_0
  refine Ok.eq (fun c4 => ?_) (fun c4 => ?_)
  · exact Ok.ret ⟨j, trivial⟩
  · have f5 := rgT (x2)
    refine Ok.eq (fun c6 => ?_) (fun c6 => ?_)
    · refine Ok.chk (ixT (by omega) (by omega)) (fun c7 => ?_)
      exact Ok.ret ⟨j, trivial⟩
    · have f8 := lit_1
      refine Ok.eq (fun c9 => ?_) (fun c9 => ?_)
      · refine Ok.chk (ixT (by omega) (by omega)) (fun c10 => ?_)
        exact Ok.ret ⟨j, trivial⟩
      · have f11 := lit_2
        refine Ok.eq (fun c12 => ?_) (fun c12 => ?_)
        · refine Ok.bind (sf_X0_whereTo (h0 := h0) n h 23 30 0 x1 (by omega) j bd_23 sc_30) (fun q9 hq9 => ?_)
          obtain ⟨jq9, xq9⟩ := hq9
          exact Ok.ret ⟨jq9, trivial⟩
        · have f13 := lit_3
          refine Ok.eq (fun c14 => ?_) (fun c14 => ?_)
          · refine Ok.bind (sf_X0_whereTo (h0 := h0) n h 23 30 1 x1 (by omega) j bd_23 sc_30) (fun q12 hq12 => ?_)
            obtain ⟨jq12, xq12⟩ := hq12
            exact Ok.ret ⟨jq12, trivial⟩
          · exact Ok.ret ⟨j, trivial⟩
