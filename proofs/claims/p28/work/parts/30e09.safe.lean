section
/-! the class comes to its end, 10 -/
set_option maxRecDepth 100000 in
set_option maxHeartbeats 4000000 in
theorem sf_X3_farthest {h0 : Hp} (n : Nat) (h : Hp) (a : Nat) (x1 : Int32) (x2 : Int32) (hn : 17179869185 ≤ n) (j : J h0 h) (hs : IsFd a) : Ok (F_X3_farthest n h a x1 x2) (fun q => q.2 = h ∧ True) := by
  unfold F_X3_farthest
  have f1 := lit_0
  exact sfW_X3_farthest_7 (h0 := h0) n h a x1 x2 ((1 : Int32) <<< ((x1 : Int32) &&& 31)) 0 j hs  (by omega) (by omega)
set_option maxRecDepth 100000 in
set_option maxHeartbeats 4000000 in
theorem sfW_X11_centre_37 {h0 : Hp} : ∀ (n : Nat), (∀ (h : Hp) (l1 : Int32) (l2 : Int32) (l3 : Int32) (l4 : Int32) (l5 : Int32), J h0 h → (17179869185 : Int) < n → (17179869185 : Int) + (25 - l5.toInt) < n → Ok (W_X11_centre n 37 h l1 l2 l3 l4 l5) (fun q => q.2 = h ∧ True)) := by
  intro n
  induction n with
  | zero => intro h l1 l2 l3 l4 l5 j hB hM; exfalso; omega
  | succ n ih =>
    intro h l1 l2 l3 l4 l5 j hB hM
    rw [u_X11_centre]
    refine Ok.pos rfl ?_
    have f1 := lit_25
    have f2 := rgT (l5)
    refine Ok.le (fun c3 => ?_) (fun c3 => ?_)
    · have f4 := rgT (l1)
      have f5 := lit_0
      refine Ok.eq (fun c6 => ?_) (fun c6 => ?_)
      · exact Ok.ret ⟨rfl, trivial⟩
      · exact Ok.ret ⟨rfl, trivial⟩
    · have f7 := and_rg ((((l2 : Int32).toUInt32 >>> ((l5 : Int32).toUInt32 &&& Int32.toUInt32 31)).toInt32) : Int32) (1 : Int32) 1 lit_1 (by decide)
      have f8 := lit_0
      refine Ok.eq (fun c9 => ?_) (fun c9 => ?_)
      · have f10 := lit_1
        first | have f11 := adT (l5) (1) (by omega) (by omega) | have f11 := adT (l5) (1)
        have f12 := rgT (l5 + 1)
        exact ih h l1 l2 l3 l4 (l5 + 1) j   (by omega) (by omega)
      · refine Ok.bind (sf_X3_farthest (h0 := h0) n h 24 l5 l2 (by omega) j fd_24) (fun q4 hq4 => ?_)
        obtain ⟨eq4, xq4⟩ := hq4
        rw [eq4]
        have f13 := rgT (l3)
        refine Ok.eqV rfl lit_m2 (fun c14 => ?_) (fun c14 => ?_)
        · have f15 := lit_1
          first | have f16 := adT (l5) (1) (by omega) (by omega) | have f16 := adT (l5) (1)
          have f17 := rgT (l5 + 1)
          exact ih h l1 l2 l5 q4.1 (l5 + 1) j   (by omega) (by omega)
        · have f18 := rgT (l4)
          have f19 := rgT (q4.1)
          refine Ok.le (fun c20 => ?_) (fun c20 => ?_)
          · have f21 := lit_1
            first | have f22 := adT (l5) (1) (by omega) (by omega) | have f22 := adT (l5) (1)
            have f23 := rgT (l5 + 1)
            exact ih h l1 l2 l3 l4 (l5 + 1) j   (by omega) (by omega)
          · have f24 := lit_1
            first | have f25 := adT (l5) (1) (by omega) (by omega) | have f25 := adT (l5) (1)
            have f26 := rgT (l5 + 1)
            exact ih h l1 l2 l5 q4.1 (l5 + 1) j   (by omega) (by omega)
set_option maxRecDepth 100000 in
set_option maxHeartbeats 4000000 in
theorem sf_X11_centre {h0 : Hp} (n : Nat) (h : Hp) (x1 : Int32) (hn : 34359738369 ≤ n) (j : J h0 h) : Ok (F_X11_centre n h x1) (fun q => q.2 = h ∧ True) := by
  unfold F_X11_centre
  refine Ok.bind (sf_X11_isNoughtOrOne (h0 := h0) n h x1 (by omega) j ) (fun q8 hq8 => ?_)
  obtain ⟨eq8, xq8⟩ := hq8
  rw [eq8]
  have f1 := rgT (q8.1)
  have f2 := lit_0
  refine Ok.eq (fun c3 => ?_) (fun c3 => ?_)
  · exact Ok.ret ⟨rfl, trivial⟩
  · exact sfW_X11_centre_37 (h0 := h0) n h x1 (((hi h 24 2) : Int32) &&& ((((hi h 30 2) : Int32) ^^^ ((-1) : Int32)) : Int32)) (-2) (-2) 0 j   (by omega) (by omega)
set_option maxRecDepth 100000 in
set_option maxHeartbeats 4000000 in
theorem sfW_X11_costsOfTunes_4 {h0 : Hp} : ∀ (n : Nat), (∀ (h : Hp) (l1 : Int32) (l2 : Int32), J h0 h → (17179869185 : Int) < n → (17179869185 : Int) + (25 - l2.toInt) < n → Ok (W_X11_costsOfTunes n 4 h l1 l2) (fun q => J h0 q.2 ∧ True)) := by
  intro n
  induction n with
  | zero => intro h l1 l2 j hB hM; exfalso; omega
  | succ n ih =>
    intro h l1 l2 j hB hM
    rw [u_X11_costsOfTunes]
    refine Ok.pos rfl ?_
    have f1 := lit_25
    have f2 := rgT (l2)
    refine Ok.le (fun c3 => ?_) (fun c3 => ?_)
    · exact Ok.ret ⟨j, trivial⟩
    · refine Ok.bind (sf_X8_isTuned (h0 := h0) n h 30 l2 (by omega) j sc_30) (fun q2 hq2 => ?_)
      obtain ⟨eq2, xq2⟩ := hq2
      rw [eq2]
      have f4 := rgT (q2.1)
      have f5 := lit_0
      refine Ok.eq (fun c6 => ?_) (fun c6 => ?_)
      · have f7 := lit_1
        first | have f8 := adT (l2) (1) (by omega) (by omega) | have f8 := adT (l2) (1)
        have f9 := rgT (l2 + 1)
        exact ih h l1 (l2 + 1) j   (by omega) (by omega)
      · refine Ok.bind (sf_X0_costOf (h0 := h0) n h 23 30 l2 (by omega) j bd_23 sc_30) (fun q5 hq5 => ?_)
        obtain ⟨jq5, xq5⟩ := hq5
        have f10 := lit_1
        first | have f11 := adT (l2) (1) (by omega) (by omega) | have f11 := adT (l2) (1)
        have f12 := rgT (l2 + 1)
        exact ih q5.2 (l1 + q5.1) (l2 + 1) jq5   (by omega) (by omega)
set_option maxRecDepth 100000 in
set_option maxHeartbeats 4000000 in
theorem sf_X11_costsOfTunes {h0 : Hp} (n : Nat) (h : Hp) (hn : 34359738369 ≤ n) (j : J h0 h) : Ok (F_X11_costsOfTunes n h) (fun q => J h0 q.2 ∧ True) := by
  unfold F_X11_costsOfTunes
  have f1 := lit_0
  exact sfW_X11_costsOfTunes_4 (h0 := h0) n h 0 0 j   (by omega) (by omega)
set_option maxRecDepth 100000 in
set_option maxHeartbeats 4000000 in
theorem sf_X2_knows {h0 : Hp} (n : Nat) (h : Hp) (x1 : Int32) (hn : 1 ≤ n) (j : J h0 h) : Ok (F_X2_knows n h x1) (fun q => q.2 = h ∧ True) := by
  unfold F_X2_knows
  have f1 := rgT (x1)
  have f2 := lit_0
  refine Ok.lt (fun c3 => ?_) (fun c3 => ?_)
  · exact Ok.ret ⟨rfl, trivial⟩
  · have f4 := cR 201 2 0 20 (by decide) j
    have f5 := rgT (hi h 201 2)
    refine Ok.lt (fun c6 => ?_) (fun c6 => ?_)
    · exact Ok.ret ⟨rfl, trivial⟩
    · exact Ok.ret ⟨rfl, trivial⟩
set_option maxRecDepth 100000 in
set_option maxHeartbeats 4000000 in
theorem sfW_X2_soundingAt_6 {h0 : Hp} : ∀ (n : Nat), (∀ (h : Hp) (l0 : Int32) (l1 : Int32) (l2 : Int32) (l3 : Int32), J h0 h → 2 ≤ l3.toInt → (1 : Int) < n → (1 : Int) + (7 - l3.toInt) < n → Ok (W_X2_soundingAt n 6 h l0 l1 l2 l3) (fun q => q.2 = h ∧ True)) := by
  intro n
  induction n with
  | zero => intro h l0 l1 l2 l3 j i0 hB hM; exfalso; omega
  | succ n ih =>
    intro h l0 l1 l2 l3 j i0 hB hM
    rw [u_X2_soundingAt]
    refine Ok.pos rfl ?_
    have f1 := lit_6
    have f2 := rgT (l3)
    refine Ok.lt (fun c3 => ?_) (fun c3 => ?_)
    · exact Ok.ret ⟨rfl, trivial⟩
    · have f4 := lit_0
      refine Ok.div (by omega) ?_
      have f6 := lit_1
      first | have f7 := adT (l3) (1) (by omega) (by omega) | have f7 := adT (l3) (1)
      have f8 := rgT (l3 + 1)
      exact ih h l0 ((l1 : Int32) ||| (((1 : Int32) <<< (((l2 + (l0 - l0 / l3 * l3)) : Int32) &&& 31)) : Int32)) (l2 + l3) (l3 + 1) j  (by omega) (by omega) (by omega)
set_option maxRecDepth 100000 in
set_option maxHeartbeats 4000000 in
theorem sf_X2_soundingAt {h0 : Hp} (n : Nat) (h : Hp) (x1 : Int32) (hn : 17179869185 ≤ n) (j : J h0 h) : Ok (F_X2_soundingAt n h x1) (fun q => q.2 = h ∧ True) := by
  unfold F_X2_soundingAt
  have f1 := lit_2
  exact sfW_X2_soundingAt_6 (h0 := h0) n h x1 0 0 2 j  (by omega) (by omega) (by omega)
set_option maxRecDepth 100000 in
set_option maxHeartbeats 4000000 in
theorem sfW_X2_fitting_5 {h0 : Hp} : ∀ (n : Nat), (∀ (h : Hp) (l1 : Int32) (l2 : Int32) (l3 : Int32), J h0 h → 0 ≤ l3.toInt → (17179869185 : Int) < n → (17179869185 : Int) + (20 - l3.toInt) < n → Ok (W_X2_fitting n 5 h l1 l2 l3) (fun q => q.2 = h ∧ True)) := by
  intro n
  induction n with
  | zero => intro h l1 l2 l3 j i0 hB hM; exfalso; omega
  | succ n ih =>
    intro h l1 l2 l3 j i0 hB hM
    rw [u_X2_fitting]
    refine Ok.pos rfl ?_
    have f1 := rgT (l1)
    have f2 := rgT (l3)
    refine Ok.le (fun c3 => ?_) (fun c3 => ?_)
    · exact Ok.ret ⟨rfl, trivial⟩
    · have f4 := cR 201 2 0 20 (by decide) j
      have f5 := rgT (hi h 201 2)
      refine Ok.le (fun c6 => ?_) (fun c6 => ?_)
      · exact Ok.ret ⟨rfl, trivial⟩
      · have f7 := lit_20
        refine Ok.le (fun c8 => ?_) (fun c8 => ?_)
        · exact Ok.ret ⟨rfl, trivial⟩
        · refine Ok.chk (ixT (by omega) (by omega)) (fun c9 => ?_)
          refine Ok.bind (sf_X2_soundingAt (h0 := h0) n h (vp_nar .byte (hi h 202 (Int32.toNatClampNeg l3))) (by omega) j ) (fun q5 hq5 => ?_)
          obtain ⟨eq5, xq5⟩ := hq5
          rw [eq5]
          refine Ok.pos c9 ?_
          have f10 := boT (hi h 203 (Int32.toNatClampNeg l3))
          have f11 := lit_0
          refine Ok.eq (fun c12 => ?_) (fun c12 => ?_)
          · have f13 := lit_1
            first | have f14 := adT (l3) (1) (by omega) (by omega) | have f14 := adT (l3) (1)
            have f15 := rgT (l3 + 1)
            exact ih h l1 ((l2 : Int32) &&& (((q5.1 : Int32) ^^^ ((-1) : Int32)) : Int32)) (l3 + 1) j  (by omega) (by omega) (by omega)
          · have f16 := lit_1
            first | have f17 := adT (l3) (1) (by omega) (by omega) | have f17 := adT (l3) (1)
            have f18 := rgT (l3 + 1)
            exact ih h l1 ((l2 : Int32) &&& (q5.1 : Int32)) (l3 + 1) j  (by omega) (by omega) (by omega)
set_option maxRecDepth 100000 in
set_option maxHeartbeats 4000000 in
theorem sf_X2_fitting {h0 : Hp} (n : Nat) (h : Hp) (x1 : Int32) (hn : 34359738369 ≤ n) (j : J h0 h) : Ok (F_X2_fitting n h x1) (fun q => q.2 = h ∧ True) := by
  unfold F_X2_fitting
  have f1 := lit_0
  exact sfW_X2_fitting_5 (h0 := h0) n h x1 1048575 0 j  (by omega) (by omega) (by omega)
set_option maxRecDepth 100000 in
set_option maxHeartbeats 4000000 in
theorem sfW_X2_firstTune_9 {h0 : Hp} : ∀ (n : Nat), (∀ (h : Hp) (l0 : Int32) (l1 : Int32) (l2 : Int32) (l3 : Int32), J h0 h → (1 : Int) < n → (1 : Int) + (7 - l3.toInt) < n → Ok (W_X2_firstTune n 9 h l0 l1 l2 l3) (fun q => q.2 = h ∧ True)) := by
  intro n
  induction n with
  | zero => intro h l0 l1 l2 l3 j hB hM; exfalso; omega
  | succ n ih =>
    intro h l0 l1 l2 l3 j hB hM
    rw [u_X2_firstTune]
    refine Ok.pos rfl ?_
    have f1 := lit_6
    have f2 := rgT (l3)
    refine Ok.lt (fun c3 => ?_) (fun c3 => ?_)
    · exact Ok.ret ⟨rfl, trivial⟩
    · have f4 := rgT (l1)
      first | have f5 := adT (l1) (l3) (by omega) (by omega) | have f5 := adT (l1) (l3)
      have f6 := rgT (l1 + l3)
      have f7 := rgT (l2)
      refine Ok.le (fun c8 => ?_) (fun c8 => ?_)
      · have f9 := lit_1
        first | have f10 := adT (l3) (1) (by omega) (by omega) | have f10 := adT (l3) (1)
        have f11 := rgT (l3 + 1)
        exact ih h l0 (l1 + l3) l2 (l3 + 1) j   (by omega) (by omega)
      · exact Ok.ret ⟨rfl, trivial⟩
set_option maxRecDepth 100000 in
set_option maxHeartbeats 4000000 in
theorem sf_X2_firstTune {h0 : Hp} (n : Nat) (h : Hp) (x1 : Int32) (hn : 17179869185 ≤ n) (j : J h0 h) : Ok (F_X2_firstTune n h x1) (fun q => q.2 = h ∧ True) := by
  unfold F_X2_firstTune
  refine Ok.bind (sf_X11_lowest (h0 := h0) n h x1 (by omega) j ) (fun q3 hq3 => ?_)
  obtain ⟨eq3, xq3⟩ := hq3
  rw [eq3]
  have f1 := lit_2
  exact sfW_X2_firstTune_9 (h0 := h0) n h x1 0 q3.1 2 j   (by omega) (by omega)
set_option maxRecDepth 100000 in
set_option maxHeartbeats 4000000 in
theorem sf_X11_fits {h0 : Hp} (n : Nat) (h : Hp) (x1 : Int32) (x2 : Int32) (hn : 34359738369 ≤ n) (j : J h0 h) : Ok (F_X11_fits n h x1 x2) (fun q => q.2 = h ∧ True) := by
  unfold F_X11_fits
  refine Ok.bind (sf_X2_knows (h0 := h0) n h x1 (by omega) j ) (fun q1 hq1 => ?_)
  obtain ⟨eq1, xq1⟩ := hq1
  rw [eq1]
  have f1 := rgT (q1.1)
  have f2 := lit_0
  refine Ok.eq (fun c3 => ?_) (fun c3 => ?_)
  · exact Ok.ret ⟨rfl, trivial⟩
  · refine Ok.bind (sf_X11_isNoughtOrOne (h0 := h0) n h x2 (by omega) j ) (fun q4 hq4 => ?_)
    obtain ⟨eq4, xq4⟩ := hq4
    rw [eq4]
    have f4 := rgT (q4.1)
    refine Ok.eq (fun c5 => ?_) (fun c5 => ?_)
    · exact Ok.ret ⟨rfl, trivial⟩
    · refine Ok.bind (sf_X2_fitting (h0 := h0) n h x1 (by omega) j ) (fun q7 hq7 => ?_)
      obtain ⟨eq7, xq7⟩ := hq7
      rw [eq7]
      have f6 := rgT (x2)
      refine Ok.eq (fun c7 => ?_) (fun c7 => ?_)
      · refine Ok.bind (sf_J6_bitCount_0f7a4 (h0 := h0) n h q7.1 (by omega) j ) (fun q12 hq12 => ?_)
        obtain ⟨eq12, xq12⟩ := hq12
        rw [eq12]
        exact Ok.ret ⟨rfl, trivial⟩
      · refine Ok.bind (sf_X2_firstTune (h0 := h0) n h q7.1 (by omega) j ) (fun q10 hq10 => ?_)
        obtain ⟨eq10, xq10⟩ := hq10
        rw [eq10]
        exact Ok.ret ⟨rfl, trivial⟩
set_option maxRecDepth 100000 in
set_option maxHeartbeats 4000000 in
theorem sf_X3_beside {h0 : Hp} (n : Nat) (h : Hp) (a : Nat) (x1 : Int32) (x2 : Int32) (hn : 1 ≤ n) (j : J h0 h) (hs : IsFd a) : Ok (F_X3_beside n h a x1 x2) (fun q => q.2 = h ∧ True) := by
  unfold F_X3_beside
  refine Ok.bind (sf_X3_leftOf (h0 := h0) n h a x1 (by omega) j hs) (fun q1 hq1 => ?_)
  obtain ⟨eq1, xq1⟩ := hq1
  rw [eq1]
  refine Ok.bind (sf_X3_topOf (h0 := h0) n h a x1 (by omega) j hs) (fun q3 hq3 => ?_)
  obtain ⟨eq3, xq3⟩ := hq3
  rw [eq3]
  have f1 := rgT (x2)
  have f2 := lit_1
  refine Ok.eq (fun c3 => ?_) (fun c3 => ?_)
  · have f4 := rgT (hi h a 0)
    have f5 := rgT (q1.1)
    first | have f6 := adT (q1.1) (1) (by omega) (by omega) | have f6 := adT (q1.1) (1)
    have f7 := rgT (q1.1 + 1)
    refine Ok.le (fun c8 => ?_) (fun c8 => ?_)
    · exact Ok.ret ⟨rfl, trivial⟩
    · exact Ok.ret ⟨rfl, trivial⟩
  · have f9 := lit_2
    refine Ok.eq (fun c10 => ?_) (fun c10 => ?_)
    · have f11 := rgT (hi h a 1)
      have f12 := rgT (q3.1)
      first | have f13 := adT (q3.1) (1) (by omega) (by omega) | have f13 := adT (q3.1) (1)
      have f14 := rgT (q3.1 + 1)
      refine Ok.le (fun c15 => ?_) (fun c15 => ?_)
      · exact Ok.ret ⟨rfl, trivial⟩
      · exact Ok.ret ⟨rfl, trivial⟩
    · have f16 := lit_3
      refine Ok.eq (fun c17 => ?_) (fun c17 => ?_)
      · have f18 := rgT (q1.1)
        have f19 := lit_0
        refine Ok.le (fun c20 => ?_) (fun c20 => ?_)
        · exact Ok.ret ⟨rfl, trivial⟩
        · exact Ok.ret ⟨rfl, trivial⟩
      · have f21 := lit_4
        refine Ok.eq (fun c22 => ?_) (fun c22 => ?_)
        · have f23 := rgT (q3.1)
          have f24 := lit_0
          refine Ok.le (fun c25 => ?_) (fun c25 => ?_)
          · exact Ok.ret ⟨rfl, trivial⟩
          · exact Ok.ret ⟨rfl, trivial⟩
        · exact Ok.ret ⟨rfl, trivial⟩
set_option maxRecDepth 100000 in
set_option maxHeartbeats 4000000 in
theorem sf_X0_whereTo {h0 : Hp} (n : Nat) (h : Hp) (a : Nat) (b1 : Nat) (x2 : Int32) (x3 : Int32) (hn : 17179869185 ≤ n) (j : J h0 h) (hs : IsBd a) (ht1 : Sc b1) : Ok (F_X0_whereTo n h a b1 x2 x3) (fun q => J h0 q.2 ∧ True) := by
  unfold F_X0_whereTo
  have f1 := rgT (x3)
  refine Ok.bind (sf_X0_hasGoer (h0 := h0) n h a x3 (by omega) j hs) (fun q1 hq1 => ?_)
  obtain ⟨eq1, xq1⟩ := hq1
  rw [eq1]
  have f2 := rgT (q1.1)
  have f3 := lit_0
  refine Ok.eq (fun c4 => ?_) (fun c4 => ?_)
  · exact Ok.ret ⟨j, trivial⟩
  · refine Ok.chk (ixT (by omega) (by omega)) (fun c5 => ?_)
    refine Ok.pos c5 ?_
    refine Ok.bind (sf_X0_ask (h0 := h0) n h a b1 x2 (hi h (b1 + 2) (Int32.toNatClampNeg x3)) (hi h (b1 + 3) (Int32.toNatClampNeg x3)) x3 (by omega) j hs ht1) (fun q6 hq6 => ?_)
    obtain ⟨jq6, xq6⟩ := hq6
    refine Ok.bind (sf_X3_beside (h0 := h0) n q6.2 (a + 1) (hi h (b1 + 2) (Int32.toNatClampNeg x3)) ((if 0 < q6.1 then q6.1 else 0) - (if 0 < q6.1 then q6.1 else 0) / 5 * 5) (by omega) jq6 hs.2.1) (fun q8 hq8 => ?_)
    obtain ⟨eq8, xq8⟩ := hq8
    rw [eq8]
    refine Ok.bind (sf_X8_isRoped (h0 := h0) n q6.2 b1 q8.1 (by omega) jq6 ht1) (fun q10 hq10 => ?_)
    obtain ⟨eq10, xq10⟩ := hq10
    rw [eq10]
    have f6 := rgT (q10.1)
    refine Ok.eq (fun c7 => ?_) (fun c7 => ?_)
    · exact Ok.ret ⟨jq6, trivial⟩
    · exact Ok.ret ⟨jq6, trivial⟩
set_option maxRecDepth 100000 in
set_option maxHeartbeats 4000000 in
theorem sf_X11_goer {h0 : Hp} (n : Nat) (h : Hp) (x1 : Int32) (x2 : Int32) (hn : 17179869185 ≤ n) (j : J h0 h) : Ok (F_X11_goer n h x1 x2) (fun q => J h0 q.2 ∧ True) := by
  unfold F_X11_goer
  have f1 := rgT (x1)
  refine Ok.bind (sf_X0_hasGoer (h0 := h0) n h 23 x1 (by omega) j bd_23) (fun q1 hq1 => ?_)
  obtain ⟨eq1, xq1⟩ := hq1
  rw [eq1]
  have f2 := rgT (q1.1)
  have f3 := lit_0
  refine Ok.eq (fun c4 => ?_) (fun c4 => ?_)
  · exact Ok.ret ⟨j, trivial⟩
  · have f5 := rgT (x2)
    refine Ok.eq (fun c6 => ?_) (fun c6 => ?_)
    · refine Ok.chk (ixT (by omega) (by omega)) (fun c7 => ?_)
      exact Ok.ret ⟨j, trivial⟩
    · have f8 := lit_1
      refine Ok.eq (fun c9 => ?_) (fun c9 => ?_)
      · refine Ok.chk (ixT (by omega) (by omega)) (fun c10 => ?_)
        exact Ok.ret ⟨j, trivial⟩
      · have f11 := lit_2
        refine Ok.eq (fun c12 => ?_) (fun c12 => ?_)
        · refine Ok.bind (sf_X0_whereTo (h0 := h0) n h 23 30 0 x1 (by omega) j bd_23 sc_30) (fun q9 hq9 => ?_)
          obtain ⟨jq9, xq9⟩ := hq9
          exact Ok.ret ⟨jq9, trivial⟩
        · have f13 := lit_3
          refine Ok.eq (fun c14 => ?_) (fun c14 => ?_)
          · refine Ok.bind (sf_X0_whereTo (h0 := h0) n h 23 30 1 x1 (by omega) j bd_23 sc_30) (fun q12 hq12 => ?_)
            obtain ⟨jq12, xq12⟩ := hq12
            exact Ok.ret ⟨jq12, trivial⟩
          · exact Ok.ret ⟨j, trivial⟩
end
section
/-! the class comes to its end, 11 -/
set_option maxRecDepth 100000 in
set_option maxHeartbeats 4000000 in
theorem sfW_X2_bestTime_12 {h0 : Hp} : ∀ (n : Nat), (∀ (h : Hp) (l0 : Int32) (l1 : Int32) (l2 : Int32) (l3 : Int32), J h0 h → (17179869185 : Int) < n → (17179869185 : Int) + (60 - l3.toInt) < n → Ok (W_X2_bestTime n 12 h l0 l1 l2 l3) (fun q => q.2 = h ∧ True)) := by
  intro n
  induction n with
  | zero => intro h l0 l1 l2 l3 j hB hM; exfalso; omega
  | succ n ih =>
    intro h l0 l1 l2 l3 j hB hM
    rw [u_X2_bestTime]
    refine Ok.pos rfl ?_
    have f1 := lit_60
    have f2 := rgT (l3)
    refine Ok.le (fun c3 => ?_) (fun c3 => ?_)
    · exact Ok.ret ⟨rfl, trivial⟩
    · have f4 := rgT (l0)
      have f5 := lit_0
      refine Ok.eq (fun c6 => ?_) (fun c6 => ?_)
      · exact Ok.ret ⟨rfl, trivial⟩
      · refine Ok.bind (sf_X2_soundingAt (h0 := h0) n h l3 (by omega) j ) (fun q3 hq3 => ?_)
        obtain ⟨eq3, xq3⟩ := hq3
        rw [eq3]
        refine Ok.bind (sf_J6_bitCount_0f7a4 (h0 := h0) n h ((l0 : Int32) &&& (q3.1 : Int32)) (by omega) j ) (fun q5 hq5 => ?_)
        obtain ⟨eq5, xq5⟩ := hq5
        rw [eq5]
        refine Ok.bind (sf_J6_bitCount_0f7a4 (h0 := h0) n h ((l0 : Int32) &&& (((q3.1 : Int32) ^^^ ((-1) : Int32)) : Int32)) (by omega) j ) (fun q7 hq7 => ?_)
        obtain ⟨eq7, xq7⟩ := hq7
        rw [eq7]
        have f7 := rgT (l2)
        have f8 := rgT (if q5.1 < q7.1 then q7.1 else q5.1)
        refine Ok.le (fun c9 => ?_) (fun c9 => ?_)
        · have f10 := lit_1
          first | have f11 := adT (l3) (1) (by omega) (by omega) | have f11 := adT (l3) (1)
          have f12 := rgT (l3 + 1)
          exact ih h l0 l1 l2 (l3 + 1) j   (by omega) (by omega)
        · have f13 := lit_1
          first | have f14 := adT (l3) (1) (by omega) (by omega) | have f14 := adT (l3) (1)
          have f15 := rgT (l3 + 1)
          exact ih h l0 l3 (if q5.1 < q7.1 then q7.1 else q5.1) (l3 + 1) j   (by omega) (by omega)
set_option maxRecDepth 100000 in
set_option maxHeartbeats 4000000 in
theorem sf_X2_bestTime {h0 : Hp} (n : Nat) (h : Hp) (x1 : Int32) (hn : 34359738369 ≤ n) (j : J h0 h) : Ok (F_X2_bestTime n h x1) (fun q => q.2 = h ∧ True) := by
  unfold F_X2_bestTime
  refine Ok.bind (sf_J6_bitCount_0f7a4 (h0 := h0) n h x1 (by omega) j ) (fun q10 hq10 => ?_)
  obtain ⟨eq10, xq10⟩ := hq10
  rw [eq10]
  have f1 := lit_0
  exact sfW_X2_bestTime_12 (h0 := h0) n h x1 (-2) (q10.1 + 1) 0 j   (by omega) (by omega)
set_option maxRecDepth 100000 in
set_option maxHeartbeats 4000000 in
theorem sf_X11_listen {h0 : Hp} (n : Nat) (h : Hp) (x1 : Int32) (hn : 34359738369 ≤ n) (j : J h0 h) : Ok (F_X11_listen n h x1) (fun q => q.2 = h ∧ True) := by
  unfold F_X11_listen
  refine Ok.bind (sf_X2_knows (h0 := h0) n h x1 (by omega) j ) (fun q1 hq1 => ?_)
  obtain ⟨eq1, xq1⟩ := hq1
  rw [eq1]
  have f1 := rgT (q1.1)
  have f2 := lit_0
  refine Ok.eq (fun c3 => ?_) (fun c3 => ?_)
  · exact Ok.ret ⟨rfl, trivial⟩
  · refine Ok.bind (sf_X2_fitting (h0 := h0) n h x1 (by omega) j ) (fun q4 hq4 => ?_)
    obtain ⟨eq4, xq4⟩ := hq4
    rw [eq4]
    refine Ok.bind (sf_X2_bestTime (h0 := h0) n h q4.1 (by omega) j ) (fun q6 hq6 => ?_)
    obtain ⟨eq6, xq6⟩ := hq6
    rw [eq6]
    exact Ok.ret ⟨rfl, trivial⟩
set_option maxRecDepth 100000 in
set_option maxHeartbeats 4000000 in
theorem sf_X8_hush {h0 : Hp} (n : Nat) (h : Hp) (a : Nat) (x1 : Int32) (hn : 1 ≤ n) (j : J h0 h) (hs : Sc a) : Ok (F_X8_hush n h a x1) (fun q => J h0 q ∧ True) := by
  unfold F_X8_hush
  generalize eg1 : wrI h a 3 (((hi h a 3) : Int32) &&& (((((1 : Int32) <<< ((x1 : Int32) &&& 31)) : Int32) ^^^ ((-1) : Int32)) : Int32)) = g1
  have jg1 : J h0 g1 := JwI eg1 j (ncO_nc (scO hs).1)
  exact Ok.ret ⟨jg1, trivial⟩
set_option maxRecDepth 100000 in
set_option maxHeartbeats 4000000 in
theorem sf_X11_mow {h0 : Hp} (n : Nat) (h : Hp) (x1 : Int32) (hn : 17179869185 ≤ n) (j : J h0 h) : Ok (F_X11_mow n h x1) (fun q => J h0 q.2 ∧ True) := by
  unfold F_X11_mow
  refine Ok.bind (sf_X3_has (h0 := h0) n h 24 x1 (by omega) j fd_24) (fun q1 hq1 => ?_)
  obtain ⟨eq1, xq1⟩ := hq1
  rw [eq1]
  have f1 := rgT (q1.1)
  have f2 := lit_0
  refine Ok.eq (fun c3 => ?_) (fun c3 => ?_)
  · exact Ok.ret ⟨j, trivial⟩
  · have f4 := rgT (x1)
    refine Ok.bind (sf_X8_isTuned (h0 := h0) n h 30 x1 (by omega) j sc_30) (fun q4 hq4 => ?_)
    obtain ⟨eq4, xq4⟩ := hq4
    rw [eq4]
    have f5 := rgT (q4.1)
    refine Ok.eq (fun c6 => ?_) (fun c6 => ?_)
    · exact Ok.ret ⟨j, trivial⟩
    · refine Ok.bind (sf_X6_keep (h0 := h0) n h 30 (by omega) j sc_30) (fun q7 hq7 => ?_)
      obtain ⟨jq7, xq7⟩ := hq7
      refine Ok.bind (sf_X0_costOf (h0 := h0) n q7 23 30 x1 (by omega) jq7 bd_23 sc_30) (fun q9 hq9 => ?_)
      obtain ⟨jq9, xq9⟩ := hq9
      generalize eg7 : wrI q9.2 30 1 ((hi q9.2 30 1) + q9.1) = g7
      have jg7 : J h0 g7 := JwI eg7 jq9 (by decide)
      refine Ok.bind (sf_X8_hush (h0 := h0) n g7 30 x1 (by omega) jg7 sc_30) (fun q11 hq11 => ?_)
      obtain ⟨jq11, xq11⟩ := hq11
      exact Ok.ret ⟨jq11, trivial⟩
set_option maxRecDepth 100000 in
set_option maxHeartbeats 4000000 in
theorem sfW_X11_next_15 {h0 : Hp} : ∀ (n : Nat), (∀ (h : Hp) (l1 : Int32) (l2 : Int32), J h0 h → (1 : Int) < n → (1 : Int) + (7 - l2.toInt) < n → Ok (W_X11_next n 15 h l1 l2) (fun q => q.2 = h ∧ True)) := by
  intro n
  induction n with
  | zero => intro h l1 l2 j hB hM; exfalso; omega
  | succ n ih =>
    intro h l1 l2 j hB hM
    rw [u_X11_next]
    refine Ok.pos rfl ?_
    have f1 := lit_6
    have f2 := rgT (l2)
    refine Ok.lt (fun c3 => ?_) (fun c3 => ?_)
    · exact Ok.ret ⟨rfl, trivial⟩
    · refine Ok.bind (sf_X8_soundsAt (h0 := h0) n h 30 l1 ((hi h 30 0) + l2) (by omega) j sc_30) (fun q2 hq2 => ?_)
      obtain ⟨eq2, xq2⟩ := hq2
      rw [eq2]
      have f4 := rgT (q2.1)
      have f5 := lit_0
      refine Ok.eq (fun c6 => ?_) (fun c6 => ?_)
      · have f7 := lit_1
        first | have f8 := adT (l2) (1) (by omega) (by omega) | have f8 := adT (l2) (1)
        have f9 := rgT (l2 + 1)
        exact ih h l1 (l2 + 1) j   (by omega) (by omega)
      · exact Ok.ret ⟨rfl, trivial⟩
set_option maxRecDepth 100000 in
set_option maxHeartbeats 4000000 in
theorem sf_X11_next {h0 : Hp} (n : Nat) (h : Hp) (x1 : Int32) (hn : 17179869185 ≤ n) (j : J h0 h) : Ok (F_X11_next n h x1) (fun q => q.2 = h ∧ True) := by
  unfold F_X11_next
  refine Ok.bind (sf_X3_has (h0 := h0) n h 24 x1 (by omega) j fd_24) (fun q5 hq5 => ?_)
  obtain ⟨eq5, xq5⟩ := hq5
  rw [eq5]
  have f1 := rgT (q5.1)
  have f2 := lit_0
  refine Ok.eq (fun c3 => ?_) (fun c3 => ?_)
  · exact Ok.ret ⟨rfl, trivial⟩
  · have f4 := lit_1
    exact sfW_X11_next_15 (h0 := h0) n h x1 1 j   (by omega) (by omega)
set_option maxRecDepth 100000 in
set_option maxHeartbeats 4000000 in
theorem sf_X11_rope {h0 : Hp} (n : Nat) (h : Hp) (x1 : Int32) (x2 : Int32) (hn : 17179869185 ≤ n) (j : J h0 h) : Ok (F_X11_rope n h x1 x2) (fun q => J h0 q.2 ∧ True) := by
  unfold F_X11_rope
  refine Ok.bind (sf_X3_has (h0 := h0) n h 24 x1 (by omega) j fd_24) (fun q1 hq1 => ?_)
  obtain ⟨eq1, xq1⟩ := hq1
  rw [eq1]
  have f1 := rgT (q1.1)
  have f2 := lit_0
  refine Ok.eq (fun c3 => ?_) (fun c3 => ?_)
  · exact Ok.ret ⟨j, trivial⟩
  · refine Ok.bind (sf_X8_isRoped (h0 := h0) n h 30 x1 (by omega) j sc_30) (fun q4 hq4 => ?_)
    obtain ⟨eq4, xq4⟩ := hq4
    rw [eq4]
    have f4 := rgT (q4.1)
    have f5 := rgT (x2)
    refine Ok.eq (fun c6 => ?_) (fun c6 => ?_)
    · exact Ok.ret ⟨j, trivial⟩
    · refine Ok.bind (sf_X8_goersIn (h0 := h0) n h 30 x1 (hi h 23 2) (by omega) j sc_30) (fun q7 hq7 => ?_)
      obtain ⟨eq7, xq7⟩ := hq7
      rw [eq7]
      have f7 := rgT (q7.1)
      refine Ok.eq (fun c8 => ?_) (fun c8 => ?_)
      · refine Ok.eq (fun c9 => ?_) (fun c9 => ?_)
        · refine Ok.bind (sf_X6_keep (h0 := h0) n h 30 (by omega) j sc_30) (fun q11 hq11 => ?_)
          obtain ⟨jq11, xq11⟩ := hq11
          generalize eg10 : wrI q11 30 2 (((hi q11 30 2) : Int32) ^^^ (((1 : Int32) <<< ((x1 : Int32) &&& 31)) : Int32)) = g10
          have jg10 : J h0 g10 := JwI eg10 jq11 (by decide)
          exact Ok.ret ⟨jg10, trivial⟩
        · have f11 := rgT (x1)
          refine Ok.bind (sf_X8_isTuned (h0 := h0) n h 30 x1 (by omega) j sc_30) (fun q13 hq13 => ?_)
          obtain ⟨eq13, xq13⟩ := hq13
          rw [eq13]
          have f12 := rgT (q13.1)
          refine Ok.eq (fun c13 => ?_) (fun c13 => ?_)
          · refine Ok.bind (sf_X6_keep (h0 := h0) n h 30 (by omega) j sc_30) (fun q16 hq16 => ?_)
            obtain ⟨jq16, xq16⟩ := hq16
            generalize eg14 : wrI q16 30 2 (((hi q16 30 2) : Int32) ^^^ (((1 : Int32) <<< ((x1 : Int32) &&& 31)) : Int32)) = g14
            have jg14 : J h0 g14 := JwI eg14 jq16 (by decide)
            exact Ok.ret ⟨jg14, trivial⟩
          · exact Ok.ret ⟨j, trivial⟩
      · exact Ok.ret ⟨j, trivial⟩
set_option maxRecDepth 100000 in
set_option maxHeartbeats 4000000 in
theorem sfW_X11_together_26 {h0 : Hp} : ∀ (n : Nat), (∀ (h : Hp) (l1 : Int32) (l2 : Int32) (l3 : Int32), J h0 h → (1 : Int) < n → (1 : Int) + (60 - l3.toInt) < n → Ok (W_X11_together n 26 h l1 l2 l3) (fun q => q.2 = h ∧ True)) := by
  intro n
  induction n with
  | zero => intro h l1 l2 l3 j hB hM; exfalso; omega
  | succ n ih =>
    intro h l1 l2 l3 j hB hM
    rw [u_X11_together]
    refine Ok.pos rfl ?_
    have f1 := lit_60
    have f2 := rgT (l3)
    refine Ok.le (fun c3 => ?_) (fun c3 => ?_)
    · exact Ok.ret ⟨rfl, trivial⟩
    · refine Ok.bind (sf_X8_soundsAt (h0 := h0) n h 30 l1 ((hi h 30 0) + l3) (by omega) j sc_30) (fun q2 hq2 => ?_)
      obtain ⟨eq2, xq2⟩ := hq2
      rw [eq2]
      have f4 := rgT (q2.1)
      have f5 := lit_0
      refine Ok.eq (fun c6 => ?_) (fun c6 => ?_)
      · have f7 := lit_1
        first | have f8 := adT (l3) (1) (by omega) (by omega) | have f8 := adT (l3) (1)
        have f9 := rgT (l3 + 1)
        exact ih h l1 l2 (l3 + 1) j   (by omega) (by omega)
      · refine Ok.bind (sf_X8_soundsAt (h0 := h0) n h 30 l2 ((hi h 30 0) + l3) (by omega) j sc_30) (fun q5 hq5 => ?_)
        obtain ⟨eq5, xq5⟩ := hq5
        rw [eq5]
        have f10 := rgT (q5.1)
        refine Ok.eq (fun c11 => ?_) (fun c11 => ?_)
        · have f12 := lit_1
          first | have f13 := adT (l3) (1) (by omega) (by omega) | have f13 := adT (l3) (1)
          have f14 := rgT (l3 + 1)
          exact ih h l1 l2 (l3 + 1) j   (by omega) (by omega)
        · exact Ok.ret ⟨rfl, trivial⟩
set_option maxRecDepth 100000 in
set_option maxHeartbeats 4000000 in
theorem sf_X11_together {h0 : Hp} (n : Nat) (h : Hp) (x1 : Int32) (x2 : Int32) (hn : 17179869185 ≤ n) (j : J h0 h) : Ok (F_X11_together n h x1 x2) (fun q => q.2 = h ∧ True) := by
  unfold F_X11_together
  refine Ok.bind (sf_X3_has (h0 := h0) n h 24 x1 (by omega) j fd_24) (fun q8 hq8 => ?_)
  obtain ⟨eq8, xq8⟩ := hq8
  rw [eq8]
  have f1 := rgT (q8.1)
  have f2 := lit_0
  refine Ok.eq (fun c3 => ?_) (fun c3 => ?_)
  · exact Ok.ret ⟨rfl, trivial⟩
  · refine Ok.bind (sf_X3_has (h0 := h0) n h 24 x2 (by omega) j fd_24) (fun q11 hq11 => ?_)
    obtain ⟨eq11, xq11⟩ := hq11
    rw [eq11]
    have f4 := rgT (q11.1)
    refine Ok.eq (fun c5 => ?_) (fun c5 => ?_)
    · exact Ok.ret ⟨rfl, trivial⟩
    · exact sfW_X11_together_26 (h0 := h0) n h x1 x2 0 j   (by omega) (by omega)
set_option maxRecDepth 100000 in
set_option maxHeartbeats 4000000 in
theorem sf_X6_takeBack {h0 : Hp} (n : Nat) (h : Hp) (b1 : Nat) (hn : 1 ≤ n) (j : J h0 h) (ht1 : Sc b1) : Ok (F_X6_takeBack n h b1) (fun q => J h0 q.2 ∧ (0 ≤ q.1.toInt ∧ q.1.toInt ≤ 1)) := by
  unfold F_X6_takeBack
  have f1 := rgT (hi h 38 2)
  have f2 := lit_0
  refine Ok.eq (fun c3 => ?_) (fun c3 => ?_)
  · refine Ok.ret ⟨j, ?_⟩
    show (0 ≤ ((0) : Int32).toInt ∧ ((0) : Int32).toInt ≤ 1)
    omega
  · have f4 := cR 38 1 0 39 (by decide) j
    have f5 := rgT (hi h 38 1)
    refine Ok.chk (ixT (by omega) (by omega)) (fun c6 => ?_)
    refine Ok.bind (sf_X8_become (h0 := h0) n h b1 (40 + 4 * (Int32.toNatClampNeg (hi h 38 1))) (by omega) j ht1 (scPast (ixO_lt c6))) (fun q3 hq3 => ?_)
    obtain ⟨jq3, xq3⟩ := hq3
    generalize eg7 : wrI q3 38 1 ((((hi q3 38 1) + 40) - 1) - (((hi q3 38 1) + 40) - 1) / 40 * 40) = g7
    have f8 := cR 38 1 0 39 (by decide) jq3
    have f9 := rgT (hi q3 38 1)
    have f10 := lit_40
    first | have f11 := adT (hi q3 38 1) (40) (by omega) (by omega) | have f11 := adT (hi q3 38 1) (40)
    have f12 := rgT ((hi q3 38 1) + 40)
    have f13 := lit_1
    generalize ey14 : (((hi q3 38 1) + 40) - 1 : Int32) = y14
    first | have f15 := sbG ey14 rfl rfl (by omega) (by omega) | have f15 := sbG ey14 rfl rfl
    have f16 := rgT (y14)
    first | have f17 := rmI y14 (40) 40 lit_40 (by decide) (by omega) | have f17 := rmI y14 (40) 40 lit_40 (by decide)
    have f18 := rgT (y14 - y14 / 40 * 40)
    have jg7 : J h0 g7 := JwC 0 39 eg7 jq3 (by decide) (rm40 _ (by have e1 := adT (hi q3 38 1) 40; have e2 := sbT (hi q3 38 1 + 40) 1; have e3 := cR 38 1 0 39 (by decide) jq3; have e4 := lit_40; have e5 := lit_1; omega)) (by decide)
    generalize eg19 : wrI g7 38 2 ((hi g7 38 2) - 1) = g19
    have jg19 : J h0 g19 := JwI eg19 jg7 (by decide)
    refine Ok.ret ⟨jg19, ?_⟩
    show (0 ≤ ((1) : Int32).toInt ∧ ((1) : Int32).toInt ≤ 1)
    omega
set_option maxRecDepth 100000 in
set_option maxHeartbeats 4000000 in
theorem sf_X11_undo {h0 : Hp} (n : Nat) (h : Hp) (hn : 1 ≤ n) (j : J h0 h) : Ok (F_X11_undo n h) (fun q => J h0 q.2 ∧ True) := by
  unfold F_X11_undo
  refine Ok.bind (sf_X6_takeBack (h0 := h0) n h 30 (by omega) j sc_30) (fun q1 hq1 => ?_)
  obtain ⟨jq1, xq1⟩ := hq1
  have f1 := rgT (q1.1)
  refine Ok.bool ⟨by omega, by omega⟩ ?_
  exact Ok.ret ⟨jq1, trivial⟩
set_option maxRecDepth 100000 in
set_option maxHeartbeats 4000000 in
theorem sfW_X8_loudAt_10 {h0 : Hp} : ∀ (n : Nat), (∀ (h : Hp) (a : Nat) (l1 : Int32) (l2 : Int32) (l3 : Int32) (l4 : Int32), J h0 h → Sc a → (1 : Int) < n → (1 : Int) + (25 - l3.toInt) < n → Ok (W_X8_loudAt n 10 h a l1 l2 l3 l4) (fun q => q.2 = h ∧ True)) := by
  intro n
  induction n with
  | zero => intro h a l1 l2 l3 l4 j hs hB hM; exfalso; omega
  | succ n ih =>
    intro h a l1 l2 l3 l4 j hs hB hM
    rw [u_X8_loudAt]
    refine Ok.pos rfl ?_
    have f1 := lit_25
    have f2 := rgT (l3)
    refine Ok.le (fun c3 => ?_) (fun c3 => ?_)
    · exact Ok.ret ⟨rfl, trivial⟩
    · have f4 := rgT (l4)
      have f5 := lit_0
      refine Ok.eq (fun c6 => ?_) (fun c6 => ?_)
      · exact Ok.ret ⟨rfl, trivial⟩
      · refine Ok.bind (sf_X11_lowest (h0 := h0) n h l4 (by omega) j ) (fun q3 hq3 => ?_)
        obtain ⟨eq3, xq3⟩ := hq3
        rw [eq3]
        refine Ok.bind (sf_X8_soundsAt (h0 := h0) n h a q3.1 l1 (by omega) j hs) (fun q5 hq5 => ?_)
        obtain ⟨eq5, xq5⟩ := hq5
        rw [eq5]
        have f7 := rgT (q5.1)
        refine Ok.eq (fun c8 => ?_) (fun c8 => ?_)
        · have f9 := lit_1
          first | have f10 := adT (l3) (1) (by omega) (by omega) | have f10 := adT (l3) (1)
          have f11 := rgT (l3 + 1)
          exact ih h a l1 l2 (l3 + 1) ((l4 : Int32) &&& ((l4 - 1) : Int32)) j hs  (by omega) (by omega)
        · have f12 := lit_1
          first | have f13 := adT (l3) (1) (by omega) (by omega) | have f13 := adT (l3) (1)
          have f14 := rgT (l3 + 1)
          exact ih h a l1 ((l2 : Int32) ||| (((l4 : Int32) &&& ((-l4) : Int32)) : Int32)) (l3 + 1) ((l4 : Int32) &&& ((l4 - 1) : Int32)) j hs  (by omega) (by omega)
set_option maxRecDepth 100000 in
set_option maxHeartbeats 4000000 in
theorem sf_X8_loudAt {h0 : Hp} (n : Nat) (h : Hp) (a : Nat) (x1 : Int32) (hn : 17179869185 ≤ n) (j : J h0 h) (hs : Sc a) : Ok (F_X8_loudAt n h a x1) (fun q => q.2 = h ∧ True) := by
  unfold F_X8_loudAt
  have f1 := lit_0
  exact sfW_X8_loudAt_10 (h0 := h0) n h a x1 0 0 (hi h a 3) j hs  (by omega) (by omega)
set_option maxRecDepth 100000 in
set_option maxHeartbeats 4000000 in
theorem sfW_X11_chorus_16 {h0 : Hp} : ∀ (n : Nat), (∀ (h : Hp) (l1 : Int32) (l2 : Int32) (l3 : Int32) (l4 : Int32), J h0 h → (17179869185 : Int) < n → (17179869185 : Int) + (60 - l4.toInt) < n → Ok (W_X11_chorus n 16 h l1 l2 l3 l4) (fun q => q.2 = h ∧ True)) := by
  intro n
  induction n with
  | zero => intro h l1 l2 l3 l4 j hB hM; exfalso; omega
  | succ n ih =>
    intro h l1 l2 l3 l4 j hB hM
    rw [u_X11_chorus]
    refine Ok.pos rfl ?_
    have f1 := lit_60
    have f2 := rgT (l4)
    refine Ok.le (fun c3 => ?_) (fun c3 => ?_)
    · have f4 := rgT (l1)
      have f5 := lit_0
      refine Ok.eq (fun c6 => ?_) (fun c6 => ?_)
      · exact Ok.ret ⟨rfl, trivial⟩
      · exact Ok.ret ⟨rfl, trivial⟩
    · refine Ok.bind (sf_X8_loudAt (h0 := h0) n h 30 ((hi h 30 0) + l4) (by omega) j sc_30) (fun q3 hq3 => ?_)
      obtain ⟨eq3, xq3⟩ := hq3
      rw [eq3]
      refine Ok.bind (sf_J6_bitCount_0f7a4 (h0 := h0) n h q3.1 (by omega) j ) (fun q5 hq5 => ?_)
      obtain ⟨eq5, xq5⟩ := hq5
      rw [eq5]
      have f7 := rgT (q5.1)
      have f8 := rgT (l2)
      refine Ok.le (fun c9 => ?_) (fun c9 => ?_)
      · have f10 := lit_1
        first | have f11 := adT (l4) (1) (by omega) (by omega) | have f11 := adT (l4) (1)
        have f12 := rgT (l4 + 1)
        exact ih h l1 l2 l3 (l4 + 1) j   (by omega) (by omega)
      · have f13 := lit_1
        first | have f14 := adT (l4) (1) (by omega) (by omega) | have f14 := adT (l4) (1)
        have f15 := rgT (l4 + 1)
        exact ih h l1 q5.1 l4 (l4 + 1) j   (by omega) (by omega)
end
section
/-! the class comes to its end, 12 -/
set_option maxRecDepth 100000 in
set_option maxHeartbeats 4000000 in
theorem sf_X11_chorus {h0 : Hp} (n : Nat) (h : Hp) (x1 : Int32) (hn : 34359738369 ≤ n) (j : J h0 h) : Ok (F_X11_chorus n h x1) (fun q => q.2 = h ∧ True) := by
  unfold F_X11_chorus
  refine Ok.bind (sf_X11_isNoughtOrOne (h0 := h0) n h x1 (by omega) j ) (fun q8 hq8 => ?_)
  obtain ⟨eq8, xq8⟩ := hq8
  rw [eq8]
  have f1 := rgT (q8.1)
  have f2 := lit_0
  refine Ok.eq (fun c3 => ?_) (fun c3 => ?_)
  · exact Ok.ret ⟨rfl, trivial⟩
  · exact sfW_X11_chorus_16 (h0 := h0) n h x1 (-1) 0 0 j   (by omega) (by omega)
set_option maxRecDepth 100000 in
set_option maxHeartbeats 4000000 in
theorem sfW_X8_stoodOn_4 {h0 : Hp} : ∀ (n : Nat), (∀ (h : Hp) (a : Nat) (l1 : Int32) (l2 : Int32) (l3 : Int32), J h0 h → Sc a → 0 ≤ l3.toInt → (1 : Int) < n → (1 : Int) + (5 - l3.toInt) < n → Ok (W_X8_stoodOn n 4 h a l1 l2 l3) (fun q => q.2 = h ∧ True)) := by
  intro n
  induction n with
  | zero => intro h a l1 l2 l3 j hs i0 hB hM; exfalso; omega
  | succ n ih =>
    intro h a l1 l2 l3 j hs i0 hB hM
    rw [u_X8_stoodOn]
    refine Ok.pos rfl ?_
    have f1 := rgT (l1)
    have f2 := rgT (l3)
    refine Ok.le (fun c3 => ?_) (fun c3 => ?_)
    · exact Ok.ret ⟨rfl, trivial⟩
    · have f4 := lit_5
      refine Ok.le (fun c5 => ?_) (fun c5 => ?_)
      · exact Ok.ret ⟨rfl, trivial⟩
      · refine Ok.chk (ixT (by omega) (by omega)) (fun c6 => ?_)
        have f7 := lit_1
        first | have f8 := adT (l3) (1) (by omega) (by omega) | have f8 := adT (l3) (1)
        have f9 := rgT (l3 + 1)
        exact ih h a l1 ((l2 : Int32) ||| (((1 : Int32) <<< (((hi h (a + 2) (Int32.toNatClampNeg l3)) : Int32) &&& 31)) : Int32)) (l3 + 1) j hs (by omega) (by omega) (by omega)
set_option maxRecDepth 100000 in
set_option maxHeartbeats 4000000 in
theorem sf_X8_stoodOn {h0 : Hp} (n : Nat) (h : Hp) (a : Nat) (x1 : Int32) (hn : 17179869185 ≤ n) (j : J h0 h) (hs : Sc a) : Ok (F_X8_stoodOn n h a x1) (fun q => q.2 = h ∧ True) := by
  unfold F_X8_stoodOn
  have f1 := lit_0
  exact sfW_X8_stoodOn_4 (h0 := h0) n h a x1 0 0 j hs (by omega) (by omega) (by omega)
set_option maxRecDepth 100000 in
set_option maxHeartbeats 4000000 in
theorem sf_X11_count {h0 : Hp} (n : Nat) (h : Hp) (x1 : Int32) (hn : 34359738369 ≤ n) (j : J h0 h) : Ok (F_X11_count n h x1) (fun q => J h0 q.2 ∧ True) := by
  unfold F_X11_count
  have f1 := rgT (x1)
  have f2 := lit_0
  refine Ok.eq (fun c3 => ?_) (fun c3 => ?_)
  · exact Ok.ret ⟨j, trivial⟩
  · have f4 := lit_1
    refine Ok.eq (fun c5 => ?_) (fun c5 => ?_)
    · exact Ok.ret ⟨j, trivial⟩
    · have f6 := lit_2
      refine Ok.eq (fun c7 => ?_) (fun c7 => ?_)
      · exact Ok.ret ⟨j, trivial⟩
      · have f8 := lit_3
        refine Ok.eq (fun c9 => ?_) (fun c9 => ?_)
        · exact Ok.ret ⟨j, trivial⟩
        · have f10 := lit_4
          refine Ok.eq (fun c11 => ?_) (fun c11 => ?_)
          · exact Ok.ret ⟨j, trivial⟩
          · have f12 := lit_5
            refine Ok.eq (fun c13 => ?_) (fun c13 => ?_)
            · exact Ok.ret ⟨j, trivial⟩
            · have f14 := lit_6
              refine Ok.eq (fun c15 => ?_) (fun c15 => ?_)
              · exact Ok.ret ⟨j, trivial⟩
              · have f16 := lit_7
                refine Ok.eq (fun c17 => ?_) (fun c17 => ?_)
                · refine Ok.bind (sf_X8_stoodOn (h0 := h0) n h 30 (hi h 23 2) (by omega) j sc_30) (fun q9 hq9 => ?_)
                  obtain ⟨eq9, xq9⟩ := hq9
                  rw [eq9]
                  exact Ok.ret ⟨j, trivial⟩
                · have f18 := lit_8
                  refine Ok.eq (fun c19 => ?_) (fun c19 => ?_)
                  · exact Ok.ret ⟨j, trivial⟩
                  · have f20 := lit_9
                    refine Ok.eq (fun c21 => ?_) (fun c21 => ?_)
                    · exact Ok.ret ⟨j, trivial⟩
                    · have f22 := lit_10
                      refine Ok.eq (fun c23 => ?_) (fun c23 => ?_)
                      · exact Ok.ret ⟨j, trivial⟩
                      · have f24 := lit_11
                        refine Ok.eq (fun c25 => ?_) (fun c25 => ?_)
                        · refine Ok.bind (sf_J6_bitCount_0f7a4 (h0 := h0) n h (hi h 0 10) (by omega) j ) (fun q15 hq15 => ?_)
                          obtain ⟨eq15, xq15⟩ := hq15
                          rw [eq15]
                          exact Ok.ret ⟨j, trivial⟩
                        · have f26 := lit_12
                          refine Ok.eq (fun c27 => ?_) (fun c27 => ?_)
                          · refine Ok.bind (sf_X8_loudAt (h0 := h0) n h 30 (hi h 30 0) (by omega) j sc_30) (fun q18 hq18 => ?_)
                            obtain ⟨eq18, xq18⟩ := hq18
                            rw [eq18]
                            exact Ok.ret ⟨j, trivial⟩
                          · have f28 := lit_13
                            refine Ok.eq (fun c29 => ?_) (fun c29 => ?_)
                            · refine Ok.bind (sf_X11_movedInAll (h0 := h0) n h  (by omega) j ) (fun q21 hq21 => ?_)
                              obtain ⟨eq21, xq21⟩ := hq21
                              rw [eq21]
                              exact Ok.ret ⟨j, trivial⟩
                            · have f30 := lit_14
                              refine Ok.eq (fun c31 => ?_) (fun c31 => ?_)
                              · refine Ok.bind (sf_J6_bitCount_0f7a4 (h0 := h0) n h (hi h 30 3) (by omega) j ) (fun q24 hq24 => ?_)
                                obtain ⟨eq24, xq24⟩ := hq24
                                rw [eq24]
                                exact Ok.ret ⟨j, trivial⟩
                              · have f32 := lit_15
                                refine Ok.eq (fun c33 => ?_) (fun c33 => ?_)
                                · refine Ok.bind (sf_X11_costsOfTunes (h0 := h0) n h  (by omega) j ) (fun q27 hq27 => ?_)
                                  obtain ⟨jq27, xq27⟩ := hq27
                                  exact Ok.ret ⟨jq27, trivial⟩
                                · have f34 := lit_16
                                  refine Ok.eq (fun c35 => ?_) (fun c35 => ?_)
                                  · refine Ok.bind (sf_X8_stoodOn (h0 := h0) n h 30 (hi h 23 2) (by omega) j sc_30) (fun q30 hq30 => ?_)
                                    obtain ⟨eq30, xq30⟩ := hq30
                                    rw [eq30]
                                    exact Ok.ret ⟨j, trivial⟩
                                  · have f36 := lit_17
                                    refine Ok.eq (fun c37 => ?_) (fun c37 => ?_)
                                    · refine Ok.bind (sf_J6_bitCount_0f7a4 (h0 := h0) n h (hi h 30 2) (by omega) j ) (fun q33 hq33 => ?_)
                                      obtain ⟨eq33, xq33⟩ := hq33
                                      rw [eq33]
                                      exact Ok.ret ⟨j, trivial⟩
                                    · have f38 := lit_18
                                      refine Ok.eq (fun c39 => ?_) (fun c39 => ?_)
                                      · refine Ok.bind (sf_X11_everMoved (h0 := h0) n h  (by omega) j ) (fun q36 hq36 => ?_)
                                        obtain ⟨eq36, xq36⟩ := hq36
                                        rw [eq36]
                                        exact Ok.ret ⟨j, trivial⟩
                                      · have f40 := lit_19
                                        refine Ok.eq (fun c41 => ?_) (fun c41 => ?_)
                                        · exact Ok.ret ⟨j, trivial⟩
                                        · exact Ok.ret ⟨j, trivial⟩
set_option maxRecDepth 100000 in
set_option maxHeartbeats 4000000 in
theorem sf_X11_loud {h0 : Hp} (n : Nat) (h : Hp) (x1 : Int32) (hn : 17179869185 ≤ n) (j : J h0 h) : Ok (F_X11_loud n h x1) (fun q => q.2 = h ∧ True) := by
  unfold F_X11_loud
  have f1 := rgT (x1)
  refine Ok.bind (sf_X11_isSpan (h0 := h0) n h x1 (by omega) j ) (fun q1 hq1 => ?_)
  obtain ⟨eq1, xq1⟩ := hq1
  rw [eq1]
  have f2 := rgT (q1.1)
  have f3 := lit_0
  refine Ok.eq (fun c4 => ?_) (fun c4 => ?_)
  · exact Ok.ret ⟨rfl, trivial⟩
  · refine Ok.bind (sf_X8_loudAt (h0 := h0) n h 30 ((hi h 30 0) + x1) (by omega) j sc_30) (fun q4 hq4 => ?_)
    obtain ⟨eq4, xq4⟩ := hq4
    rw [eq4]
    exact Ok.ret ⟨rfl, trivial⟩
set_option maxRecDepth 100000 in
set_option maxHeartbeats 4000000 in
theorem sfW_X0_walk_46 {h0 : Hp} : ∀ (n : Nat), (∀ (h : Hp) (a : Nat) (b1 : Nat) (l2 : Int32), J h0 h → IsBd a → Sc b1 → 0 ≤ l2.toInt → (17179869185 : Int) < n → (17179869185 : Int) + (5 - l2.toInt) < n → Ok (W_X0_walk n 46 h a b1 l2) (fun q => J h0 q ∧ True)) := by
  intro n
  induction n with
  | zero => intro h a b1 l2 j hs ht1 i0 hB hM; exfalso; omega
  | succ n ih =>
    intro h a b1 l2 j hs ht1 i0 hB hM
    rw [u_X0_walk]
    refine Ok.neg (by decide) ?_
    refine Ok.pos rfl ?_
    have f1 := cR a 2 0 5 (bdC hs) j
    have f2 := rgT (hi h a 2)
    have f3 := rgT (l2)
    refine Ok.le (fun c4 => ?_) (fun c4 => ?_)
    · exact Ok.ret ⟨j, trivial⟩
    · have f5 := lit_5
      refine Ok.le (fun c6 => ?_) (fun c6 => ?_)
      · exact Ok.ret ⟨j, trivial⟩
      · refine Ok.chk (ixT (by omega) (by omega)) (fun c7 => ?_)
        refine Ok.bind (sf_X8_soundsAt (h0 := h0) n h b1 (hi h (b1 + 2) (Int32.toNatClampNeg l2)) (hi h b1 0) (by omega) j ht1) (fun q9 hq9 => ?_)
        obtain ⟨eq9, xq9⟩ := hq9
        rw [eq9]
        have f8 := rgT (q9.1)
        have f9 := lit_0
        refine Ok.eq (fun c10 => ?_) (fun c10 => ?_)
        · have f11 := lit_1
          first | have f12 := adT (l2) (1) (by omega) (by omega) | have f12 := adT (l2) (1)
          have f13 := rgT (l2 + 1)
          exact ih h a b1 (l2 + 1) j hs ht1 (by omega) (by omega) (by omega)
        · refine Ok.bind (sf_X0_whereTo (h0 := h0) n h a b1 1 l2 (by omega) j hs ht1) (fun q12 hq12 => ?_)
          obtain ⟨jq12, xq12⟩ := hq12
          refine Ok.pos c7 ?_
          refine Ok.pos c7 ?_
          refine Ok.pos c7 ?_
          generalize eg14 : wrI q12.2 (b1 + 2) (Int32.toNatClampNeg l2) q12.1 = g14
          have jg14 : J h0 g14 := JwI eg14 jq12 (ncO_nc (scO ht1).2.2.1)
          generalize eg15 : wrI g14 (b1 + 3) (Int32.toNatClampNeg l2) ((hi g14 (b1 + 3) (Int32.toNatClampNeg l2)) + 1) = g15
          have jg15 : J h0 g15 := JwI eg15 jg14 (ncO_nc (scO ht1).2.2.2)
          have f16 := lit_1
          first | have f17 := adT (l2) (1) (by omega) (by omega) | have f17 := adT (l2) (1)
          have f18 := rgT (l2 + 1)
          exact ih g15 a b1 (l2 + 1) jg15 hs ht1 (by omega) (by omega) (by omega)
set_option maxRecDepth 100000 in
set_option maxHeartbeats 4000000 in
theorem sfW_X0_walk_2 {h0 : Hp} : ∀ (n : Nat), (∀ (h : Hp) (a : Nat) (b1 : Nat) (l2 : Int32), J h0 h → IsBd a → Sc b1 → 0 ≤ l2.toInt → (34359738369 : Int) < n → (34359738369 : Int) + (5 - l2.toInt) < n → Ok (W_X0_walk n 2 h a b1 l2) (fun q => J h0 q ∧ True)) := by
  intro n
  induction n with
  | zero => intro h a b1 l2 j hs ht1 i0 hB hM; exfalso; omega
  | succ n ih =>
    intro h a b1 l2 j hs ht1 i0 hB hM
    rw [u_X0_walk]
    refine Ok.pos rfl ?_
    have f1 := cR a 2 0 5 (bdC hs) j
    have f2 := rgT (hi h a 2)
    have f3 := rgT (l2)
    refine Ok.le (fun c4 => ?_) (fun c4 => ?_)
    · generalize eg5 : wrI h b1 0 ((hi h b1 0) + 1) = g5
      have jg5 : J h0 g5 := JwI eg5 j (ncO_nc (scO ht1).1)
      have f6 := lit_0
      exact sfW_X0_walk_46 (h0 := h0) n g5 a b1 0 jg5 hs ht1 (by omega) (by omega) (by omega)
    · have f7 := lit_5
      refine Ok.le (fun c8 => ?_) (fun c8 => ?_)
      · generalize eg9 : wrI h b1 0 ((hi h b1 0) + 1) = g9
        have jg9 : J h0 g9 := JwI eg9 j (ncO_nc (scO ht1).1)
        have f10 := lit_0
        exact sfW_X0_walk_46 (h0 := h0) n g9 a b1 0 jg9 hs ht1 (by omega) (by omega) (by omega)
      · refine Ok.bind (sf_X0_whereTo (h0 := h0) n h a b1 0 l2 (by omega) j hs ht1) (fun q3 hq3 => ?_)
        obtain ⟨jq3, xq3⟩ := hq3
        refine Ok.chk (ixT (by omega) (by omega)) (fun c11 => ?_)
        generalize eg12 : wrI q3.2 (b1 + 2) (Int32.toNatClampNeg l2) q3.1 = g12
        have jg12 : J h0 g12 := JwI eg12 jq3 (ncO_nc (scO ht1).2.2.1)
        have f13 := lit_1
        first | have f14 := adT (l2) (1) (by omega) (by omega) | have f14 := adT (l2) (1)
        have f15 := rgT (l2 + 1)
        exact ih g12 a b1 (l2 + 1) jg12 hs ht1 (by omega) (by omega) (by omega)
set_option maxRecDepth 100000 in
set_option maxHeartbeats 4000000 in
theorem sf_X0_walk {h0 : Hp} (n : Nat) (h : Hp) (a : Nat) (b1 : Nat) (hn : 51539607553 ≤ n) (j : J h0 h) (hs : IsBd a) (ht1 : Sc b1) : Ok (F_X0_walk n h a b1) (fun q => J h0 q ∧ True) := by
  unfold F_X0_walk
  have f1 := lit_0
  exact sfW_X0_walk_2 (h0 := h0) n h a b1 0 j hs ht1 (by omega) (by omega) (by omega)
set_option maxRecDepth 100000 in
set_option maxHeartbeats 4000000 in
theorem sfW_X11_never_37 {h0 : Hp} : ∀ (n : Nat), (∀ (h : Hp) (l1 : Int32) (l2 : Int32) (l3 : Int32), J h0 h → l1.toInt ≤ 100 → (51539607553 : Int) < n → (51539607553 : Int) + (l1.toInt - l3.toInt + 1) < n → Ok (W_X11_never n 37 h l1 l2 l3) (fun q => J h0 q.2 ∧ True)) := by
  intro n
  induction n with
  | zero => intro h l1 l2 l3 j i0 hB hM; exfalso; omega
  | succ n ih =>
    intro h l1 l2 l3 j i0 hB hM
    rw [u_X11_never]
    refine Ok.pos rfl ?_
    have f1 := rgT (l1)
    have f2 := rgT (l3)
    refine Ok.lt (fun c3 => ?_) (fun c3 => ?_)
    · exact Ok.ret ⟨j, trivial⟩
    · refine Ok.bind (sf_X0_walk (h0 := h0) n h 23 34 (by omega) j bd_23 sc_34) (fun q2 hq2 => ?_)
      obtain ⟨jq2, xq2⟩ := hq2
      refine Ok.bind (sf_X8_stoodOn (h0 := h0) n q2 34 (hi q2 23 2) (by omega) jq2 sc_34) (fun q4 hq4 => ?_)
      obtain ⟨eq4, xq4⟩ := hq4
      rw [eq4]
      have f4 := lit_1
      first | have f5 := adT (l3) (1) (by omega) (by omega) | have f5 := adT (l3) (1)
      have f6 := rgT (l3 + 1)
      exact ih q2 l1 ((l2 : Int32) ||| (q4.1 : Int32)) (l3 + 1) jq2  (by omega) (by omega) (by omega)
set_option maxRecDepth 100000 in
set_option maxHeartbeats 4000000 in
theorem sf_X11_never {h0 : Hp} (n : Nat) (h : Hp) (x1 : Int32) (hn : 68719476737 ≤ n) (j : J h0 h) : Ok (F_X11_never n h x1) (fun q => J h0 q.2 ∧ True) := by
  unfold F_X11_never
  have f1 := rgT (x1)
  refine Ok.bind (sf_X11_isSpan (h0 := h0) n h x1 (by omega) j ) (fun q6 hq6 => ?_)
  obtain ⟨eq6, xq6⟩ := hq6
  rw [eq6]
  have f2 := rgT (q6.1)
  have f3 := lit_0
  refine Ok.eq (fun c4 => ?_) (fun c4 => ?_)
  · exact Ok.ret ⟨j, trivial⟩
  · refine Ok.bind (sf_X8_become (h0 := h0) n h 34 30 (by omega) j sc_34 sc_30) (fun q9 hq9 => ?_)
    obtain ⟨jq9, xq9⟩ := hq9
    refine Ok.bind (sf_X8_stoodOn (h0 := h0) n q9 34 (hi q9 23 2) (by omega) jq9 sc_34) (fun q11 hq11 => ?_)
    obtain ⟨eq11, xq11⟩ := hq11
    rw [eq11]
    have f5 := lit_1
    exact sfW_X11_never_37 (h0 := h0) n q9 x1 q11.1 1 jq9  (by omega) (by omega) (by omega)
set_option maxRecDepth 100000 in
set_option maxHeartbeats 4000000 in
theorem sfW_J7_fill_50_5 {h0 : Hp} : ∀ (n : Nat), (∀ (h : Hp) (b1 : Nat) (l1 : Int32) (l2 : Int32) (l3 : Int32), J h0 h → b1 = 209 → 0 ≤ l2.toInt → l3.toInt = 50 → l1.toInt < 50 → (1 : Int) < n → (1 : Int) + (50 - l2.toInt) < n → Ok (W_J7_fill_50 n 5 h b1 l1 l2 l3) (fun q => J h0 q ∧ True)) := by
  intro n
  induction n with
  | zero => intro h b1 l1 l2 l3 j p0 i0 i1 i2 hB hM; exfalso; omega
  | succ n ih =>
    intro h b1 l1 l2 l3 j p0 i0 i1 i2 hB hM
    rw [u_J7_fill_50]
    subst p0
    refine Ok.pos rfl ?_
    have f1 := rgT (l3)
    have f2 := rgT (l2)
    refine Ok.le (fun c3 => ?_) (fun c3 => ?_)
    · exact Ok.ret ⟨j, trivial⟩
    · refine Ok.chk (ixT (by omega) (by omega)) (fun c4 => ?_)
      generalize eg5 : wrI h 209 (Int32.toNatClampNeg l2) l1 = g5
      have f6 := rgT (l1)
      have jg5 : J h0 g5 := Jw209 eg5 j (by omega)
      have f7 := lit_1
      first | have f8 := adT (l2) (1) (by omega) (by omega) | have f8 := adT (l2) (1)
      have f9 := rgT (l2 + 1)
      exact ih g5 209 l1 (l2 + 1) l3 jg5 rfl (by omega) (by omega) (by omega) (by omega) (by omega)
set_option maxRecDepth 100000 in
set_option maxHeartbeats 4000000 in
theorem sf_J7_fill_50 {h0 : Hp} (n : Nat) (h : Hp) (b1 : Nat) (x2 : Int32) (hn : 17179869185 ≤ n) (j : J h0 h) (p0 : b1 = 209) (p1 : x2.toInt < 50) : Ok (F_J7_fill_50 n h b1 x2) (fun q => J h0 q ∧ True) := by
  unfold F_J7_fill_50
  subst p0
  have f1 := rgT (x2)
  have f2 := lit_0
  have f3 := lit_50
  exact sfW_J7_fill_50_5 (h0 := h0) n h 209 x2 0 50 j rfl (by omega) (by omega) (by omega) (by omega) (by omega)
end
section
/-! the class comes to its end, 13 -/
set_option maxRecDepth 100000 in
set_option maxHeartbeats 4000000 in
theorem sf_X1_find {h0 : Hp} (n : Nat) (h : Hp) (x1 : Int32) (x2 : Int32) (hn : 1 ≤ n) (j : J h0 h) (p0 : (x1.toInt < 50 → x2.toInt < 50)) : Ok (F_X1_find n h x1 x2) (fun q => J h0 q ∧ True) := by
  unfold F_X1_find
  have f1 := rgT (x1)
  have f2 := lit_0
  refine Ok.lt (fun c3 => ?_) (fun c3 => ?_)
  · exact Ok.ret ⟨j, trivial⟩
  · have f4 := lit_50
    refine Ok.le (fun c5 => ?_) (fun c5 => ?_)
    · exact Ok.ret ⟨j, trivial⟩
    · refine Ok.chk (ixT (by omega) (by omega)) (fun c6 => ?_)
      have f7 := cR209 (Int32.toNatClampNeg x1) j
      have f8 := rgT (hi h 209 (Int32.toNatClampNeg x1))
      refine Ok.eqV rfl lit_m1 (fun c9 => ?_) (fun c9 => ?_)
      · have f10 := cR 207 4 0 50 (by decide) j
        have f11 := rgT (hi h 207 4)
        refine Ok.le (fun c12 => ?_) (fun c12 => ?_)
        · exact Ok.ret ⟨j, trivial⟩
        · refine Ok.pos c6 ?_
          generalize eg13 : wrI h 209 (Int32.toNatClampNeg x1) x2 = g13
          have f14 := rgT (x2)
          have jg13 : J h0 g13 := Jw209 eg13 j (by omega)
          have f15 := congrArg Int32.toInt (hiA eg13 207 4 (by decide))
          have f16 := rgT (hi g13 207 4)
          refine Ok.chk (ixT (by omega) (by omega)) (fun c17 => ?_)
          generalize eg18 : wrI g13 210 (Int32.toNatClampNeg (hi g13 207 4)) x1 = g18
          have jg18 : J h0 g18 := Jw210 eg18 jg13 ⟨by omega, by omega⟩
          generalize eg19 : wrI g18 207 4 ((hi g18 207 4) + 1) = g19
          have f20 := congrArg Int32.toInt (hiA eg18 207 4 (by decide))
          have f21 := rgT (hi g18 207 4)
          have f22 := lit_1
          first | have f23 := adT (hi g18 207 4) (1) (by omega) (by omega) | have f23 := adT (hi g18 207 4) (1)
          have f24 := rgT ((hi g18 207 4) + 1)
          have jg19 : J h0 g19 := JwC 0 50 eg19 jg18 (by decide) ⟨by omega, by omega⟩ (by decide)
          exact Ok.ret ⟨jg19, trivial⟩
      · exact Ok.ret ⟨j, trivial⟩
set_option maxRecDepth 100000 in
set_option maxHeartbeats 4000000 in
theorem sf_X1_leadOnFromEntry {h0 : Hp} (n : Nat) (h : Hp) (x1 : Int32) (hn : 1 ≤ n) (j : J h0 h) (p0 : 0 ≤ x1.toInt) (p1 : x1.toInt < 25) : Ok (F_X1_leadOnFromEntry n h x1) (fun q => J h0 q ∧ True) := by
  unfold F_X1_leadOnFromEntry
  have f1 := rgT (x1)
  refine Ok.chk (ixT (by omega) (by omega)) (fun c2 => ?_)
  have f3 := rgT (hi h 208 (Int32.toNatClampNeg x1))
  refine Ok.eqV rfl lit_m1 (fun c4 => ?_) (fun c4 => ?_)
  · have f5 := lit_2
    first | have f6 := mlT (2) (x1) (2) lit_2 (by omega) (by omega) | have f6 := mlT (2) (x1) (2) lit_2
    have f7 := lit_1
    first | have f8 := adT (2 * x1) (1) (by omega) (by omega) | have f8 := adT (2 * x1) (1)
    have f9 := rgT ((2 * x1) + 1)
    refine Ok.bind (sf_X1_find (h0 := h0) n h ((2 * x1) + 1) (2 * x1) (by omega) j (by omega)) (fun q5 hq5 => ?_)
    obtain ⟨jq5, xq5⟩ := hq5
    exact Ok.ret ⟨jq5, trivial⟩
  · have f10 := lit_2
    first | have f11 := mlT (2) (hi h 208 (Int32.toNatClampNeg x1)) (2) lit_2 (by omega) (by omega) | have f11 := mlT (2) (hi h 208 (Int32.toNatClampNeg x1)) (2) lit_2
    have f12 := lit_1
    first | have f13 := adT (2 * (hi h 208 (Int32.toNatClampNeg x1))) (1) (by omega) (by omega) | have f13 := adT (2 * (hi h 208 (Int32.toNatClampNeg x1))) (1)
    have f14 := rgT ((2 * (hi h 208 (Int32.toNatClampNeg x1))) + 1)
    first | have f15 := mlT (2) (x1) (2) lit_2 (by omega) (by omega) | have f15 := mlT (2) (x1) (2) lit_2
    refine Ok.bind (sf_X1_find (h0 := h0) n h ((2 * (hi h 208 (Int32.toNatClampNeg x1))) + 1) (2 * x1) (by omega) j (by omega)) (fun q3 hq3 => ?_)
    obtain ⟨jq3, xq3⟩ := hq3
    exact Ok.ret ⟨jq3, trivial⟩
set_option maxRecDepth 100000 in
set_option maxHeartbeats 4000000 in
theorem sfW_X1_leadOnFromExit_22 {h0 : Hp} : ∀ (n : Nat), (∀ (h : Hp) (l1 : Int32) (l2 : Int32) (l3 : Int32) (l4 : Int32), J h0 h → 0 ≤ l1.toInt → l1.toInt < 25 → 0 ≤ l4.toInt → (1 : Int) < n → (1 : Int) + (25 - l4.toInt) < n → Ok (W_X1_leadOnFromExit n 22 h l1 l2 l3 l4) (fun q => J h0 q ∧ True)) := by
  intro n
  induction n with
  | zero => intro h l1 l2 l3 l4 j i0 i1 i2 hB hM; exfalso; omega
  | succ n ih =>
    intro h l1 l2 l3 l4 j i0 i1 i2 hB hM
    rw [u_X1_leadOnFromExit]
    refine Ok.pos rfl ?_
    have f1 := lit_25
    have f2 := rgT (l4)
    refine Ok.le (fun c3 => ?_) (fun c3 => ?_)
    · have f4 := rgT (l1)
      refine Ok.chk (ixT (by omega) (by omega)) (fun c5 => ?_)
      have f6 := rgT (hi h 208 (Int32.toNatClampNeg l1))
      refine Ok.eqV rfl lit_m1 (fun c7 => ?_) (fun c7 => ?_)
      · exact Ok.ret ⟨j, trivial⟩
      · have f8 := lit_2
        first | have f9 := mlT (2) (l1) (2) lit_2 (by omega) (by omega) | have f9 := mlT (2) (l1) (2) lit_2
        have f10 := lit_1
        first | have f11 := adT (2 * l1) (1) (by omega) (by omega) | have f11 := adT (2 * l1) (1)
        have f12 := rgT ((2 * l1) + 1)
        refine Ok.bind (sf_X1_find (h0 := h0) n h (2 * l1) ((2 * l1) + 1) (by omega) j (by omega)) (fun q4 hq4 => ?_)
        obtain ⟨jq4, xq4⟩ := hq4
        exact Ok.ret ⟨jq4, trivial⟩
    · have f13 := and_rg ((((l3 : Int32).toUInt32 >>> ((l4 : Int32).toUInt32 &&& Int32.toUInt32 31)).toInt32) : Int32) (1 : Int32) 1 lit_1 (by decide)
      have f14 := lit_0
      refine Ok.eq (fun c15 => ?_) (fun c15 => ?_)
      · have f16 := rgT (l1)
        have f17 := lit_1
        first | have f18 := adT (l4) (1) (by omega) (by omega) | have f18 := adT (l4) (1)
        have f19 := rgT (l4 + 1)
        exact ih h l1 l2 l3 (l4 + 1) j  (by omega) (by omega) (by omega) (by omega) (by omega)
      · refine Ok.chk (ixT (by omega) (by omega)) (fun c20 => ?_)
        have f21 := rgT (hi h 208 (Int32.toNatClampNeg l4))
        have f22 := rgT (l1)
        refine Ok.eq (fun c23 => ?_) (fun c23 => ?_)
        · have f24 := lit_1
          first | have f25 := adT (l4) (1) (by omega) (by omega) | have f25 := adT (l4) (1)
          have f26 := rgT (l4 + 1)
          exact ih h l1 l2 l3 (l4 + 1) j  (by omega) (by omega) (by omega) (by omega) (by omega)
        · have f27 := lit_2
          first | have f28 := mlT (2) (l4) (2) lit_2 (by omega) (by omega) | have f28 := mlT (2) (l4) (2) lit_2
          first | have f29 := mlT (2) (l1) (2) lit_2 (by omega) (by omega) | have f29 := mlT (2) (l1) (2) lit_2
          have f30 := lit_1
          first | have f31 := adT (2 * l1) (1) (by omega) (by omega) | have f31 := adT (2 * l1) (1)
          have f32 := rgT ((2 * l1) + 1)
          refine Ok.bind (sf_X1_find (h0 := h0) n h (2 * l4) ((2 * l1) + 1) (by omega) j (by omega)) (fun q9 hq9 => ?_)
          obtain ⟨jq9, xq9⟩ := hq9
          first | have f33 := adT (l4) (1) (by omega) (by omega) | have f33 := adT (l4) (1)
          have f34 := rgT (l4 + 1)
          exact ih q9 l1 l2 l3 (l4 + 1) jq9  (by omega) (by omega) (by omega) (by omega) (by omega)
set_option maxRecDepth 100000 in
set_option maxHeartbeats 4000000 in
theorem sf_X1_leadOnFromExit {h0 : Hp} (n : Nat) (h : Hp) (x1 : Int32) (x2 : Int32) (hn : 17179869185 ≤ n) (j : J h0 h) (p0 : 0 ≤ x1.toInt) (p1 : x1.toInt < 25) : Ok (F_X1_leadOnFromExit n h x1 x2) (fun q => J h0 q ∧ True) := by
  unfold F_X1_leadOnFromExit
  refine Ok.bind (sf_X3_grown (h0 := h0) n h 24 ((1 : Int32) <<< ((x1 : Int32) &&& 31)) (by omega) j fd_24) (fun q11 hq11 => ?_)
  obtain ⟨eq11, xq11⟩ := hq11
  rw [eq11]
  have f1 := rgT (x1)
  have f2 := lit_0
  exact sfW_X1_leadOnFromExit_22 (h0 := h0) n h x1 x2 ((((q11.1 : Int32) &&& (x2 : Int32)) : Int32) &&& (((((1 : Int32) <<< ((x1 : Int32) &&& 31)) : Int32) ^^^ ((-1) : Int32)) : Int32)) 0 j  (by omega) (by omega) (by omega) (by omega) (by omega)
set_option maxRecDepth 100000 in
set_option maxHeartbeats 4000000 in
theorem sfW_X1_search_30 {h0 : Hp} : ∀ (n : Nat), (∀ (h : Hp) (l1 : Int32) (l2 : Int32) (l3 : Int32) (l4 : Int32), J h0 h → 0 ≤ l4.toInt → (17179869185 : Int) < n → (17179869185 : Int) + (50 - l4.toInt) < n → Ok (W_X1_search n 30 h l1 l2 l3 l4) (fun q => J h0 q.2 ∧ (q.1.toInt ≠ 0 → 0 ≤ (2 * l3 : Int32).toInt ∧ (2 * l3 : Int32).toInt < 50))) := by
  intro n
  induction n with
  | zero => intro h l1 l2 l3 l4 j i0 hB hM; exfalso; omega
  | succ n ih =>
    intro h l1 l2 l3 l4 j i0 hB hM
    rw [u_X1_search]
    refine Ok.pos rfl ?_
    have f1 := cR 207 4 0 50 (by decide) j
    have f2 := rgT (hi h 207 4)
    have f3 := rgT (l4)
    refine Ok.le (fun c4 => ?_) (fun c4 => ?_)
    · have f5 := lit_0
      refine Ok.ret ⟨j, ?_⟩
      show (((0) : Int32).toInt ≠ 0 → 0 ≤ (2 * l3 : Int32).toInt ∧ (2 * l3 : Int32).toInt < 50)
      omega
    · have f6 := lit_50
      refine Ok.le (fun c7 => ?_) (fun c7 => ?_)
      · have f8 := lit_0
        refine Ok.ret ⟨j, ?_⟩
        show (((0) : Int32).toInt ≠ 0 → 0 ≤ (2 * l3 : Int32).toInt ∧ (2 * l3 : Int32).toInt < 50)
        omega
      · refine Ok.chk (ixT (by omega) (by omega)) (fun c9 => ?_)
        refine Ok.pos c9 ?_
        have f10 := cR210 (Int32.toNatClampNeg l4) j
        have f11 := rgT (hi h 210 (Int32.toNatClampNeg l4))
        have f12 := lit_2
        have f13 := rgT (l3)
        first | have f14 := mlT (2) (l3) (2) lit_2 (by omega) (by omega) | have f14 := mlT (2) (l3) (2) lit_2
        refine Ok.eq (fun c15 => ?_) (fun c15 => ?_)
        · have f16 := lit_1
          refine Ok.ret ⟨j, ?_⟩
          show (((1) : Int32).toInt ≠ 0 → 0 ≤ (2 * l3 : Int32).toInt ∧ (2 * l3 : Int32).toInt < 50)
          omega
        · refine Ok.pos c9 ?_
          have f17 := and_rg ((hi h 210 (Int32.toNatClampNeg l4)) : Int32) (1 : Int32) 1 lit_1 (by decide)
          have f18 := lit_0
          refine Ok.eq (fun c19 => ?_) (fun c19 => ?_)
          · have f20 := shr1T ((hi h 210 (Int32.toNatClampNeg l4)) : Int32)
            refine Ok.bind (sf_X1_leadOnFromEntry (h0 := h0) n h (((hi h 210 (Int32.toNatClampNeg l4)) : Int32) >>> ((1 : Int32) &&& 31)) (by omega) j (by omega) (by omega)) (fun q10 hq10 => ?_)
            obtain ⟨jq10, xq10⟩ := hq10
            have f21 := lit_1
            first | have f22 := adT (l4) (1) (by omega) (by omega) | have f22 := adT (l4) (1)
            have f23 := rgT (l4 + 1)
            exact ih q10 l1 l2 l3 (l4 + 1) jq10  (by omega) (by omega) (by omega)
          · have f24 := shr1T ((hi h 210 (Int32.toNatClampNeg l4)) : Int32)
            have f25 := rgT ((l1 : Int32) &&& (((((1 : Int32) <<< ((l2 : Int32) &&& 31)) : Int32) ^^^ ((-1) : Int32)) : Int32))
            refine Ok.bind (sf_X1_leadOnFromExit (h0 := h0) n h (((hi h 210 (Int32.toNatClampNeg l4)) : Int32) >>> ((1 : Int32) &&& 31)) ((l1 : Int32) &&& (((((1 : Int32) <<< ((l2 : Int32) &&& 31)) : Int32) ^^^ ((-1) : Int32)) : Int32)) (by omega) j (by omega) (by omega)) (fun q8 hq8 => ?_)
            obtain ⟨jq8, xq8⟩ := hq8
            have f26 := lit_1
            first | have f27 := adT (l4) (1) (by omega) (by omega) | have f27 := adT (l4) (1)
            have f28 := rgT (l4 + 1)
            exact ih q8 l1 l2 l3 (l4 + 1) jq8  (by omega) (by omega) (by omega)
set_option maxRecDepth 100000 in
set_option maxHeartbeats 4000000 in
theorem sf_X1_search {h0 : Hp} (n : Nat) (h : Hp) (x1 : Int32) (x2 : Int32) (x3 : Int32) (hn : 34359738369 ≤ n) (j : J h0 h) : Ok (F_X1_search n h x1 x2 x3) (fun q => J h0 q.2 ∧ (q.1.toInt ≠ 0 → 0 ≤ (2 * x3 : Int32).toInt ∧ (2 * x3 : Int32).toInt < 50)) := by
  unfold F_X1_search
  have f1 := lit_m1
  refine Ok.bind (sf_J7_fill_50 (h0 := h0) n h 209 (-1) (by omega) j rfl (by omega)) (fun q12 hq12 => ?_)
  obtain ⟨jq12, xq12⟩ := hq12
  generalize eg2 : wrI q12 207 4 0 = g2
  have f3 := lit_0
  have jg2 : J h0 g2 := JwC 0 50 eg2 jq12 (by decide) ⟨by omega, by omega⟩ (by decide)
  have f4 := lit_2
  have f5 := rgT (x2)
  first | have f6 := mlT (2) (x2) (2) lit_2 (by omega) (by omega) | have f6 := mlT (2) (x2) (2) lit_2
  have f7 := lit_1
  first | have f8 := adT (2 * x2) (1) (by omega) (by omega) | have f8 := adT (2 * x2) (1)
  have f9 := rgT ((2 * x2) + 1)
  refine Ok.bind (sf_X1_find (h0 := h0) n g2 ((2 * x2) + 1) ((2 * x2) + 1) (by omega) jg2 (by omega)) (fun q14 hq14 => ?_)
  obtain ⟨jq14, xq14⟩ := hq14
  exact sfW_X1_search_30 (h0 := h0) n q14 x1 x2 x3 0 jq14  (by omega) (by omega) (by omega)
set_option maxRecDepth 100000 in
set_option maxHeartbeats 4000000 in
theorem sfW_X1_layWay_7 {h0 : Hp} : ∀ (n : Nat), (∀ (h : Hp) (l1 : Int32) (l2 : Int32) (l3 : Int32) (l4 : Int32), J h0 h → 0 ≤ l3.toInt → l3.toInt < 50 → (1 : Int) < n → (1 : Int) + (50 - l4.toInt) < n → Ok (W_X1_layWay n 7 h l1 l2 l3 l4) (fun q => J h0 q ∧ True)) := by
  intro n
  induction n with
  | zero => intro h l1 l2 l3 l4 j i0 i1 hB hM; exfalso; omega
  | succ n ih =>
    intro h l1 l2 l3 l4 j i0 i1 hB hM
    rw [u_X1_layWay]
    refine Ok.pos rfl ?_
    have f1 := lit_50
    have f2 := rgT (l4)
    refine Ok.le (fun c3 => ?_) (fun c3 => ?_)
    · exact Ok.ret ⟨j, trivial⟩
    · have f4 := rgT (l3)
      have f5 := lit_2
      have f6 := rgT (l1)
      first | have f7 := mlT (2) (l1) (2) lit_2 (by omega) (by omega) | have f7 := mlT (2) (l1) (2) lit_2
      have f8 := lit_1
      first | have f9 := adT (2 * l1) (1) (by omega) (by omega) | have f9 := adT (2 * l1) (1)
      have f10 := rgT ((2 * l1) + 1)
      refine Ok.eq (fun c11 => ?_) (fun c11 => ?_)
      · exact Ok.ret ⟨j, trivial⟩
      · refine Ok.chk (ixT (by omega) (by omega)) (fun c12 => ?_)
        have f13 := lit_0
        have f14 := cR209 (Int32.toNatClampNeg l3) j
        have f15 := rgT (hi h 209 (Int32.toNatClampNeg l3))
        refine Ok.le (fun c16 => ?_) (fun c16 => ?_)
        · have f17 := and_rg (l3 : Int32) (1 : Int32) 1 lit_1 (by decide)
          refine Ok.eq (fun c18 => ?_) (fun c18 => ?_)
          · have f19 := shr1T (l3 : Int32)
            have f20 := rgT (l2)
            refine Ok.eq (fun c21 => ?_) (fun c21 => ?_)
            · first | have f22 := adT (l4) (1) (by omega) (by omega) | have f22 := adT (l4) (1)
              have f23 := rgT (l4 + 1)
              exact ih h l1 l2 (hi h 209 (Int32.toNatClampNeg l3)) (l4 + 1) j  (by omega) (by omega) (by omega) (by omega)
            · have f24 := shr1T ((hi h 209 (Int32.toNatClampNeg l3)) : Int32)
              refine Ok.eq (fun c25 => ?_) (fun c25 => ?_)
              · refine Ok.chk (ixT (by omega) (by omega)) (fun c26 => ?_)
                generalize eg27 : wrI h 208 (Int32.toNatClampNeg ((l3 : Int32) >>> ((1 : Int32) &&& 31))) (-1) = g27
                have jg27 : J h0 g27 := JwI eg27 j (ncO_nc (by decide))
                first | have f28 := adT (l4) (1) (by omega) (by omega) | have f28 := adT (l4) (1)
                have f29 := rgT (l4 + 1)
                exact ih g27 l1 l2 (hi h 209 (Int32.toNatClampNeg l3)) (l4 + 1) jg27  (by omega) (by omega) (by omega) (by omega)
              · refine Ok.chk (ixT (by omega) (by omega)) (fun c30 => ?_)
                generalize eg31 : wrI h 208 (Int32.toNatClampNeg ((l3 : Int32) >>> ((1 : Int32) &&& 31))) (((hi h 209 (Int32.toNatClampNeg l3)) : Int32) >>> ((1 : Int32) &&& 31)) = g31
                have jg31 : J h0 g31 := JwI eg31 j (ncO_nc (by decide))
                first | have f32 := adT (l4) (1) (by omega) (by omega) | have f32 := adT (l4) (1)
                have f33 := rgT (l4 + 1)
                exact ih g31 l1 l2 (hi h 209 (Int32.toNatClampNeg l3)) (l4 + 1) jg31  (by omega) (by omega) (by omega) (by omega)
          · first | have f34 := adT (l4) (1) (by omega) (by omega) | have f34 := adT (l4) (1)
            have f35 := rgT (l4 + 1)
            exact ih h l1 l2 (hi h 209 (Int32.toNatClampNeg l3)) (l4 + 1) j  (by omega) (by omega) (by omega) (by omega)
        · exact Ok.ret ⟨j, trivial⟩
set_option maxRecDepth 100000 in
set_option maxHeartbeats 4000000 in
theorem sf_X1_layWay {h0 : Hp} (n : Nat) (h : Hp) (x1 : Int32) (x2 : Int32) (hn : 17179869185 ≤ n) (j : J h0 h) (p0 : 0 ≤ (2 * x2 : Int32).toInt) (p1 : (2 * x2 : Int32).toInt < 50) : Ok (F_X1_layWay n h x1 x2) (fun q => J h0 q ∧ True) := by
  unfold F_X1_layWay
  have f1 := lit_2
  have f2 := rgT (x2)
  first | have f3 := mlT (2) (x2) (2) lit_2 (by omega) (by omega) | have f3 := mlT (2) (x2) (2) lit_2
  have f4 := lit_0
  exact sfW_X1_layWay_7 (h0 := h0) n h x1 x2 (2 * x2) 0 j  (by omega) (by omega) (by omega) (by omega)
end
section
/-! the class comes to its end, 14 -/
set_option maxRecDepth 100000 in
set_option maxHeartbeats 4000000 in
theorem sfW_X1_fewestRopes_14 {h0 : Hp} : ∀ (n : Nat), (∀ (h : Hp) (l1 : Int32) (l2 : Int32) (l3 : Int32) (l4 : Int32) (l5 : Int32), J h0 h → (34359738369 : Int) < n → (34359738369 : Int) + (4 - l5.toInt) < n → Ok (W_X1_fewestRopes n 14 h l1 l2 l3 l4 l5) (fun q => J h0 q.2 ∧ True)) := by
  intro n
  induction n with
  | zero => intro h l1 l2 l3 l4 l5 j hB hM; exfalso; omega
  | succ n ih =>
    intro h l1 l2 l3 l4 l5 j hB hM
    rw [u_X1_fewestRopes]
    refine Ok.pos rfl ?_
    have f1 := lit_4
    have f2 := rgT (l5)
    refine Ok.le (fun c3 => ?_) (fun c3 => ?_)
    · exact Ok.ret ⟨j, trivial⟩
    · have f4 := rgT (l3)
      refine Ok.bind (sf_X1_search (h0 := h0) n h l1 l2 l3 (by omega) j ) (fun q2 hq2 => ?_)
      obtain ⟨jq2, xq2⟩ := hq2
      have f5 := rgT (q2.1)
      have f6 := lit_0
      refine Ok.eq (fun c7 => ?_) (fun c7 => ?_)
      · exact Ok.ret ⟨jq2, trivial⟩
      · have f8 := rgT (l2)
        refine Ok.bind (sf_X1_layWay (h0 := h0) n q2.2 l2 l3 (by omega) jq2 (by omega) (by omega)) (fun q5 hq5 => ?_)
        obtain ⟨jq5, xq5⟩ := hq5
        have f9 := lit_1
        first | have f10 := adT (l5) (1) (by omega) (by omega) | have f10 := adT (l5) (1)
        have f11 := rgT (l5 + 1)
        exact ih q5 l1 l2 l3 (l4 + 1) (l5 + 1) jq5   (by omega) (by omega)
set_option maxRecDepth 100000 in
set_option maxHeartbeats 4000000 in
theorem sf_X1_fewestRopes {h0 : Hp} (n : Nat) (h : Hp) (x1 : Int32) (x2 : Int32) (x3 : Int32) (hn : 51539607553 ≤ n) (j : J h0 h) : Ok (F_X1_fewestRopes n h x1 x2 x3) (fun q => J h0 q.2 ∧ True) := by
  unfold F_X1_fewestRopes
  have f1 := lit_m1
  refine Ok.bind (sf_J7_fill_25 (h0 := h0) n h 208 (-1) (by omega) j (by decide)) (fun q7 hq7 => ?_)
  obtain ⟨jq7, xq7⟩ := hq7
  have f2 := lit_0
  exact sfW_X1_fewestRopes_14 (h0 := h0) n q7 x1 x2 x3 0 0 jq7   (by omega) (by omega)
set_option maxRecDepth 100000 in
set_option maxHeartbeats 4000000 in
theorem sf_X11_part {h0 : Hp} (n : Nat) (h : Hp) (x1 : Int32) (x2 : Int32) (hn : 51539607553 ≤ n) (j : J h0 h) : Ok (F_X11_part n h x1 x2) (fun q => J h0 q.2 ∧ True) := by
  unfold F_X11_part
  refine Ok.bind (sf_X11_isFree (h0 := h0) n h x1 (by omega) j ) (fun q1 hq1 => ?_)
  obtain ⟨eq1, xq1⟩ := hq1
  rw [eq1]
  have f1 := rgT (q1.1)
  have f2 := lit_0
  refine Ok.eq (fun c3 => ?_) (fun c3 => ?_)
  · exact Ok.ret ⟨j, trivial⟩
  · refine Ok.bind (sf_X11_isFree (h0 := h0) n h x2 (by omega) j ) (fun q4 hq4 => ?_)
    obtain ⟨eq4, xq4⟩ := hq4
    rw [eq4]
    have f4 := rgT (q4.1)
    refine Ok.eq (fun c5 => ?_) (fun c5 => ?_)
    · exact Ok.ret ⟨j, trivial⟩
    · refine Ok.bind (sf_X3_grown (h0 := h0) n h 24 ((1 : Int32) <<< ((x1 : Int32) &&& 31)) (by omega) j fd_24) (fun q7 hq7 => ?_)
      obtain ⟨eq7, xq7⟩ := hq7
      rw [eq7]
      have f6 := and_rg ((((q7.1 : Int32).toUInt32 >>> ((x2 : Int32).toUInt32 &&& Int32.toUInt32 31)).toInt32) : Int32) (1 : Int32) 1 lit_1 (by decide)
      refine Ok.eq (fun c7 => ?_) (fun c7 => ?_)
      · refine Ok.bind (sf_X1_fewestRopes (h0 := h0) n h (((hi h 24 2) : Int32) &&& ((((hi h 30 2) : Int32) ^^^ ((-1) : Int32)) : Int32)) x1 x2 (by omega) j ) (fun q10 hq10 => ?_)
        obtain ⟨jq10, xq10⟩ := hq10
        exact Ok.ret ⟨jq10, trivial⟩
      · exact Ok.ret ⟨j, trivial⟩
set_option maxRecDepth 100000 in
set_option maxHeartbeats 4000000 in
theorem sfW_X8_allTunesDivide_7 {h0 : Hp} : ∀ (n : Nat), (∀ (h : Hp) (a : Nat) (l1 : Int32) (l2 : Int32) (l3 : Int32), J h0 h → Sc a → (1 : Int) < n → (1 : Int) + (25 - l2.toInt) < n → Ok (W_X8_allTunesDivide n 7 h a l1 l2 l3) (fun q => q.2 = h ∧ True)) := by
  intro n
  induction n with
  | zero => intro h a l1 l2 l3 j hs hB hM; exfalso; omega
  | succ n ih =>
    intro h a l1 l2 l3 j hs hB hM
    rw [u_X8_allTunesDivide]
    refine Ok.pos rfl ?_
    have f1 := lit_25
    have f2 := rgT (l2)
    refine Ok.le (fun c3 => ?_) (fun c3 => ?_)
    · exact Ok.ret ⟨rfl, trivial⟩
    · have f4 := rgT (l3)
      have f5 := lit_0
      refine Ok.eq (fun c6 => ?_) (fun c6 => ?_)
      · exact Ok.ret ⟨rfl, trivial⟩
      · refine Ok.bind (sf_X11_lowest (h0 := h0) n h l3 (by omega) j ) (fun q3 hq3 => ?_)
        obtain ⟨eq3, xq3⟩ := hq3
        rw [eq3]
        refine Ok.bind (sf_X8_beatOf (h0 := h0) n h a q3.1 (by omega) j hs) (fun q5 hq5 => ?_)
        obtain ⟨eq5, xq5⟩ := hq5
        rw [eq5]
        have f7 := rgT (q5.1)
        refine Ok.le (fun c8 => ?_) (fun c8 => ?_)
        · have f9 := lit_1
          first | have f10 := adT (l2) (1) (by omega) (by omega) | have f10 := adT (l2) (1)
          have f11 := rgT (l2 + 1)
          exact ih h a l1 (l2 + 1) ((l3 : Int32) &&& ((l3 - 1) : Int32)) j hs  (by omega) (by omega)
        · refine Ok.div (by omega) ?_
          have f13 := rgT (l1 - l1 / q5.1 * q5.1)
          refine Ok.eq (fun c14 => ?_) (fun c14 => ?_)
          · have f15 := lit_1
            first | have f16 := adT (l2) (1) (by omega) (by omega) | have f16 := adT (l2) (1)
            have f17 := rgT (l2 + 1)
            exact ih h a l1 (l2 + 1) ((l3 : Int32) &&& ((l3 - 1) : Int32)) j hs  (by omega) (by omega)
          · exact Ok.ret ⟨rfl, trivial⟩
set_option maxRecDepth 100000 in
set_option maxHeartbeats 4000000 in
theorem sf_X8_allTunesDivide {h0 : Hp} (n : Nat) (h : Hp) (a : Nat) (x1 : Int32) (hn : 17179869185 ≤ n) (j : J h0 h) (hs : Sc a) : Ok (F_X8_allTunesDivide n h a x1) (fun q => q.2 = h ∧ True) := by
  unfold F_X8_allTunesDivide
  have f1 := lit_0
  exact sfW_X8_allTunesDivide_7 (h0 := h0) n h a x1 0 (hi h a 3) j hs  (by omega) (by omega)
set_option maxRecDepth 100000 in
set_option maxHeartbeats 4000000 in
theorem sfW_X11_period_2 {h0 : Hp} : ∀ (n : Nat), (∀ (h : Hp) (l1 : Int32), J h0 h → (17179869185 : Int) < n → (17179869185 : Int) + (60 - l1.toInt) < n → Ok (W_X11_period n 2 h l1) (fun q => q.2 = h ∧ True)) := by
  intro n
  induction n with
  | zero => intro h l1 j hB hM; exfalso; omega
  | succ n ih =>
    intro h l1 j hB hM
    rw [u_X11_period]
    refine Ok.pos rfl ?_
    have f1 := lit_60
    have f2 := rgT (l1)
    refine Ok.le (fun c3 => ?_) (fun c3 => ?_)
    · exact Ok.ret ⟨rfl, trivial⟩
    · refine Ok.bind (sf_X8_allTunesDivide (h0 := h0) n h 30 l1 (by omega) j sc_30) (fun q2 hq2 => ?_)
      obtain ⟨eq2, xq2⟩ := hq2
      rw [eq2]
      have f4 := rgT (q2.1)
      have f5 := lit_0
      refine Ok.eq (fun c6 => ?_) (fun c6 => ?_)
      · have f7 := lit_1
        first | have f8 := adT (l1) (1) (by omega) (by omega) | have f8 := adT (l1) (1)
        have f9 := rgT (l1 + 1)
        exact ih h (l1 + 1) j   (by omega) (by omega)
      · exact Ok.ret ⟨rfl, trivial⟩
set_option maxRecDepth 100000 in
set_option maxHeartbeats 4000000 in
theorem sf_X11_period {h0 : Hp} (n : Nat) (h : Hp) (hn : 34359738369 ≤ n) (j : J h0 h) : Ok (F_X11_period n h) (fun q => q.2 = h ∧ True) := by
  unfold F_X11_period
  have f1 := lit_1
  exact sfW_X11_period_2 (h0 := h0) n h 1 j   (by omega) (by omega)
set_option maxRecDepth 100000 in
set_option maxHeartbeats 4000000 in
theorem sfW_X11_returns_26 {h0 : Hp} : ∀ (n : Nat), (∀ (h : Hp) (l1 : Int32) (l2 : Int32), J h0 h → 0 ≤ l1.toInt → l1.toInt < 5 → (51539607553 : Int) < n → (51539607553 : Int) + (101 - l2.toInt) < n → Ok (W_X11_returns n 26 h l1 l2) (fun q => J h0 q.2 ∧ True)) := by
  intro n
  induction n with
  | zero => intro h l1 l2 j i0 i1 hB hM; exfalso; omega
  | succ n ih =>
    intro h l1 l2 j i0 i1 hB hM
    rw [u_X11_returns]
    refine Ok.pos rfl ?_
    have f1 := lit_100
    have f2 := rgT (l2)
    refine Ok.lt (fun c3 => ?_) (fun c3 => ?_)
    · exact Ok.ret ⟨j, trivial⟩
    · refine Ok.bind (sf_X0_walk (h0 := h0) n h 23 34 (by omega) j bd_23 sc_34) (fun q2 hq2 => ?_)
      obtain ⟨jq2, xq2⟩ := hq2
      have f4 := rgT (l1)
      refine Ok.chk (ixT (by omega) (by omega)) (fun c5 => ?_)
      refine Ok.pos c5 ?_
      have f6 := rgT (hi q2 36 (Int32.toNatClampNeg l1))
      have f7 := rgT (hi q2 32 (Int32.toNatClampNeg l1))
      refine Ok.eq (fun c8 => ?_) (fun c8 => ?_)
      · exact Ok.ret ⟨jq2, trivial⟩
      · have f9 := lit_1
        first | have f10 := adT (l2) (1) (by omega) (by omega) | have f10 := adT (l2) (1)
        have f11 := rgT (l2 + 1)
        exact ih q2 l1 (l2 + 1) jq2  (by omega) (by omega) (by omega) (by omega)
set_option maxRecDepth 100000 in
set_option maxHeartbeats 4000000 in
theorem sf_X11_returns {h0 : Hp} (n : Nat) (h : Hp) (x1 : Int32) (hn : 68719476737 ≤ n) (j : J h0 h) : Ok (F_X11_returns n h x1) (fun q => J h0 q.2 ∧ True) := by
  unfold F_X11_returns
  have f1 := rgT (x1)
  refine Ok.bind (sf_X0_hasGoer (h0 := h0) n h 23 x1 (by omega) j bd_23) (fun q7 hq7 => ?_)
  obtain ⟨eq7, xq7⟩ := hq7
  rw [eq7]
  have f2 := rgT (q7.1)
  have f3 := lit_0
  refine Ok.eq (fun c4 => ?_) (fun c4 => ?_)
  · exact Ok.ret ⟨j, trivial⟩
  · refine Ok.bind (sf_X8_become (h0 := h0) n h 34 30 (by omega) j sc_34 sc_30) (fun q10 hq10 => ?_)
    obtain ⟨jq10, xq10⟩ := hq10
    have f5 := lit_1
    exact sfW_X11_returns_26 (h0 := h0) n q10 x1 1 jq10  (by omega) (by omega) (by omega) (by omega)
set_option maxRecDepth 100000 in
set_option maxHeartbeats 4000000 in
theorem sfW_X11_silence_20 {h0 : Hp} : ∀ (n : Nat), (∀ (h : Hp) (l1 : Int32) (l2 : Int32) (l3 : Int32) (l4 : Int32) (l5 : Int32), J h0 h → (17179869185 : Int) < n → (17179869185 : Int) + (60 - l5.toInt) < n → Ok (W_X11_silence n 20 h l1 l2 l3 l4 l5) (fun q => q.2 = h ∧ True)) := by
  intro n
  induction n with
  | zero => intro h l1 l2 l3 l4 l5 j hB hM; exfalso; omega
  | succ n ih =>
    intro h l1 l2 l3 l4 l5 j hB hM
    rw [u_X11_silence]
    refine Ok.pos rfl ?_
    have f1 := lit_60
    have f2 := rgT (l5)
    refine Ok.le (fun c3 => ?_) (fun c3 => ?_)
    · have f4 := rgT (l1)
      have f5 := lit_0
      refine Ok.eq (fun c6 => ?_) (fun c6 => ?_)
      · exact Ok.ret ⟨rfl, trivial⟩
      · exact Ok.ret ⟨rfl, trivial⟩
    · refine Ok.bind (sf_X8_loudAt (h0 := h0) n h 30 ((hi h 30 0) + l5) (by omega) j sc_30) (fun q3 hq3 => ?_)
      obtain ⟨eq3, xq3⟩ := hq3
      rw [eq3]
      have f7 := rgT (q3.1)
      have f8 := lit_0
      refine Ok.eq (fun c9 => ?_) (fun c9 => ?_)
      · have f10 := rgT (l4)
        have f11 := lit_1
        first | have f12 := adT (l4) (1) (by omega) (by omega) | have f12 := adT (l4) (1)
        have f13 := rgT (l4 + 1)
        have f14 := rgT (l2)
        refine Ok.le (fun c15 => ?_) (fun c15 => ?_)
        · first | have f16 := adT (l5) (1) (by omega) (by omega) | have f16 := adT (l5) (1)
          have f17 := rgT (l5 + 1)
          exact ih h l1 l2 l3 (l4 + 1) (l5 + 1) j   (by omega) (by omega)
        · first | have f18 := adT (l5) (1) (by omega) (by omega) | have f18 := adT (l5) (1)
          have f19 := rgT (l5 + 1)
          exact ih h l1 (l4 + 1) ((l5 + 1) - (l4 + 1)) (l4 + 1) (l5 + 1) j   (by omega) (by omega)
      · have f20 := rgT (l2)
        refine Ok.le (fun c21 => ?_) (fun c21 => ?_)
        · have f22 := lit_1
          first | have f23 := adT (l5) (1) (by omega) (by omega) | have f23 := adT (l5) (1)
          have f24 := rgT (l5 + 1)
          exact ih h l1 l2 l3 0 (l5 + 1) j   (by omega) (by omega)
        · have f25 := lit_1
          first | have f26 := adT (l5) (1) (by omega) (by omega) | have f26 := adT (l5) (1)
          have f27 := rgT (l5 + 1)
          exact ih h l1 0 ((l5 + 1) - 0) 0 (l5 + 1) j   (by omega) (by omega)
set_option maxRecDepth 100000 in
set_option maxHeartbeats 4000000 in
theorem sf_X11_silence {h0 : Hp} (n : Nat) (h : Hp) (x1 : Int32) (hn : 34359738369 ≤ n) (j : J h0 h) : Ok (F_X11_silence n h x1) (fun q => q.2 = h ∧ True) := by
  unfold F_X11_silence
  refine Ok.bind (sf_X11_isNoughtOrOne (h0 := h0) n h x1 (by omega) j ) (fun q8 hq8 => ?_)
  obtain ⟨eq8, xq8⟩ := hq8
  rw [eq8]
  have f1 := rgT (q8.1)
  have f2 := lit_0
  refine Ok.eq (fun c3 => ?_) (fun c3 => ?_)
  · exact Ok.ret ⟨rfl, trivial⟩
  · exact sfW_X11_silence_20 (h0 := h0) n h x1 0 (-2) 0 0 j   (by omega) (by omega)
set_option maxRecDepth 100000 in
set_option maxHeartbeats 4000000 in
theorem sfW_X11_stood_65 {h0 : Hp} : ∀ (n : Nat), (∀ (h : Hp) (l1 : Int32) (l2 : Int32) (l3 : Int32) (l4 : Int32) (l5 : Int32), J h0 h → 0 ≤ l1.toInt → l1.toInt < 5 → l3.toInt ≤ 100 → (51539607553 : Int) < n → (51539607553 : Int) + (l3.toInt - l5.toInt + 1) < n → Ok (W_X11_stood n 65 h l1 l2 l3 l4 l5) (fun q => J h0 q.2 ∧ True)) := by
  intro n
  induction n with
  | zero => intro h l1 l2 l3 l4 l5 j i0 i1 i2 hB hM; exfalso; omega
  | succ n ih =>
    intro h l1 l2 l3 l4 l5 j i0 i1 i2 hB hM
    rw [u_X11_stood]
    refine Ok.pos rfl ?_
    have f1 := rgT (l3)
    have f2 := rgT (l5)
    refine Ok.lt (fun c3 => ?_) (fun c3 => ?_)
    · exact Ok.ret ⟨j, trivial⟩
    · refine Ok.bind (sf_X0_walk (h0 := h0) n h 23 34 (by omega) j bd_23 sc_34) (fun q2 hq2 => ?_)
      obtain ⟨jq2, xq2⟩ := hq2
      have f4 := rgT (l1)
      refine Ok.chk (ixT (by omega) (by omega)) (fun c5 => ?_)
      have f6 := rgT (hi q2 36 (Int32.toNatClampNeg l1))
      have f7 := rgT (l2)
      refine Ok.eq (fun c8 => ?_) (fun c8 => ?_)
      · have f9 := lit_1
        first | have f10 := adT (l5) (1) (by omega) (by omega) | have f10 := adT (l5) (1)
        have f11 := rgT (l5 + 1)
        exact ih q2 l1 l2 l3 (l4 + 1) (l5 + 1) jq2  (by omega) (by omega) (by omega) (by omega) (by omega)
      · have f12 := lit_1
        first | have f13 := adT (l5) (1) (by omega) (by omega) | have f13 := adT (l5) (1)
        have f14 := rgT (l5 + 1)
        exact ih q2 l1 l2 l3 l4 (l5 + 1) jq2  (by omega) (by omega) (by omega) (by omega) (by omega)
set_option maxRecDepth 100000 in
set_option maxHeartbeats 4000000 in
theorem sf_X11_stood {h0 : Hp} (n : Nat) (h : Hp) (x1 : Int32) (x2 : Int32) (x3 : Int32) (hn : 68719476737 ≤ n) (j : J h0 h) : Ok (F_X11_stood n h x1 x2 x3) (fun q => J h0 q.2 ∧ True) := by
  unfold F_X11_stood
  have f1 := rgT (x1)
  refine Ok.bind (sf_X0_hasGoer (h0 := h0) n h 23 x1 (by omega) j bd_23) (fun q6 hq6 => ?_)
  obtain ⟨eq6, xq6⟩ := hq6
  rw [eq6]
  have f2 := rgT (q6.1)
  have f3 := lit_0
  refine Ok.eq (fun c4 => ?_) (fun c4 => ?_)
  · exact Ok.ret ⟨j, trivial⟩
  · refine Ok.bind (sf_X3_has (h0 := h0) n h 24 x2 (by omega) j fd_24) (fun q9 hq9 => ?_)
    obtain ⟨eq9, xq9⟩ := hq9
    rw [eq9]
    have f5 := rgT (q9.1)
    refine Ok.eq (fun c6 => ?_) (fun c6 => ?_)
    · exact Ok.ret ⟨j, trivial⟩
    · have f7 := rgT (x3)
      refine Ok.bind (sf_X11_isSpan (h0 := h0) n h x3 (by omega) j ) (fun q12 hq12 => ?_)
      obtain ⟨eq12, xq12⟩ := hq12
      rw [eq12]
      have f8 := rgT (q12.1)
      refine Ok.eq (fun c9 => ?_) (fun c9 => ?_)
      · exact Ok.ret ⟨j, trivial⟩
      · refine Ok.bind (sf_X8_become (h0 := h0) n h 34 30 (by omega) j sc_34 sc_30) (fun q15 hq15 => ?_)
        obtain ⟨jq15, xq15⟩ := hq15
        refine Ok.chk (ixT (by omega) (by omega)) (fun c10 => ?_)
        have f11 := rgT (hi q15 36 (Int32.toNatClampNeg x1))
        have f12 := rgT (x2)
        refine Ok.eq (fun c13 => ?_) (fun c13 => ?_)
        · have f14 := lit_1
          exact sfW_X11_stood_65 (h0 := h0) n q15 x1 x2 x3 1 1 jq15  (by omega) (by omega) (by omega) (by omega) (by omega)
        · have f15 := lit_1
          exact sfW_X11_stood_65 (h0 := h0) n q15 x1 x2 x3 0 1 jq15  (by omega) (by omega) (by omega) (by omega) (by omega)
set_option maxRecDepth 100000 in
set_option maxHeartbeats 4000000 in
theorem sf_X3_quietOnTheRight {h0 : Hp} (n : Nat) (h : Hp) (a : Nat) (x1 : Int32) (hn : 1 ≤ n) (j : J h0 h) (hs : IsFd a) : Ok (F_X3_quietOnTheRight n h a x1) (fun q => q.2 = h ∧ True) := by
  unfold F_X3_quietOnTheRight
  exact Ok.ret ⟨rfl, trivial⟩
set_option maxRecDepth 100000 in
set_option maxHeartbeats 4000000 in
theorem sf_X0_canSpread {h0 : Hp} (n : Nat) (h : Hp) (a : Nat) (b1 : Nat) (hn : 1 ≤ n) (j : J h0 h) (hs : IsBd a) (ht1 : Sc b1) : Ok (F_X0_canSpread n h a b1) (fun q => q.2 = h ∧ True) := by
  unfold F_X0_canSpread
  have f1 := rgT (hi h a 3)
  have f2 := lit_0
  refine Ok.le (fun c3 => ?_) (fun c3 => ?_)
  · exact Ok.ret ⟨rfl, trivial⟩
  · refine Ok.bind (sf_X3_quietOnTheRight (h0 := h0) n h (a + 1) (hi h b1 3) (by omega) j hs.2.1) (fun q2 hq2 => ?_)
    obtain ⟨eq2, xq2⟩ := hq2
    rw [eq2]
    have f4 := rgT (q2.1)
    refine Ok.eq (fun c5 => ?_) (fun c5 => ?_)
    · exact Ok.ret ⟨rfl, trivial⟩
    · refine Ok.bind (sf_J6_bitCount_0f7a4 (h0 := h0) n h (hi h b1 3) (by omega) j ) (fun q5 hq5 => ?_)
      obtain ⟨eq5, xq5⟩ := hq5
      rw [eq5]
      have f6 := lit_8
      have f7 := rgT (q5.1)
      refine Ok.le (fun c8 => ?_) (fun c8 => ?_)
      · exact Ok.ret ⟨rfl, trivial⟩
      · exact Ok.ret ⟨rfl, trivial⟩
end
section
/-! the class comes to its end, 15 -/
set_option maxRecDepth 100000 in
set_option maxHeartbeats 4000000 in
theorem sf_X0_stirred {h0 : Hp} (n : Nat) (h : Hp) (x1 : Int32) (x2 : Int32) (hn : 1 ≤ n) (j : J h0 h) : Ok (F_X0_stirred n h x1 x2) (fun q => q.2 = h ∧ True) := by
  unfold F_X0_stirred
  exact Ok.ret ⟨rfl, trivial⟩
set_option maxRecDepth 100000 in
set_option maxHeartbeats 4000000 in
theorem sf_X0_lot {h0 : Hp} (n : Nat) (h : Hp) (x1 : Int32) (x2 : Int32) (x3 : Int32) (hn : 1 ≤ n) (j : J h0 h) : Ok (F_X0_lot n h x1 x2 x3) (fun q => q.2 = h ∧ True) := by
  unfold F_X0_lot
  refine Ok.bind (sf_X0_stirred (h0 := h0) n h x2 197 (by omega) j ) (fun q1 hq1 => ?_)
  obtain ⟨eq1, xq1⟩ := hq1
  rw [eq1]
  refine Ok.bind (sf_X0_stirred (h0 := h0) n h q1.1 x3 (by omega) j ) (fun q3 hq3 => ?_)
  obtain ⟨eq3, xq3⟩ := hq3
  rw [eq3]
  have f1 := rgT (x1)
  have f2 := lit_0
  refine Ok.le (fun c3 => ?_) (fun c3 => ?_)
  · exact Ok.ret ⟨rfl, trivial⟩
  · refine Ok.div (by omega) ?_
    exact Ok.ret ⟨rfl, trivial⟩
set_option maxRecDepth 100000 in
set_option maxHeartbeats 4000000 in
theorem sf_X0_isWet {h0 : Hp} (n : Nat) (h : Hp) (a : Nat) (x1 : Int32) (x2 : Int32) (x3 : Int32) (hn : 1 ≤ n) (j : J h0 h) (hs : IsBd a) : Ok (F_X0_isWet n h a x1 x2 x3) (fun q => q.2 = h ∧ True) := by
  unfold F_X0_isWet
  refine Ok.bind (sf_X0_lot (h0 := h0) n h 100 x3 ((32 * x1) + x2) (by omega) j ) (fun q1 hq1 => ?_)
  obtain ⟨eq1, xq1⟩ := hq1
  rw [eq1]
  have f1 := rgT (hi h a 3)
  have f2 := rgT (q1.1)
  refine Ok.le (fun c3 => ?_) (fun c3 => ?_)
  · exact Ok.ret ⟨rfl, trivial⟩
  · exact Ok.ret ⟨rfl, trivial⟩
set_option maxRecDepth 100000 in
set_option maxHeartbeats 4000000 in
theorem sf_X8_soundFromTheLeft {h0 : Hp} (n : Nat) (h : Hp) (a : Nat) (x1 : Int32) (hn : 1 ≤ n) (j : J h0 h) (hs : Sc a) : Ok (F_X8_soundFromTheLeft n h a x1) (fun q => J h0 q ∧ True) := by
  unfold F_X8_soundFromTheLeft
  refine Ok.bind (sf_X8_beatOf (h0 := h0) n h a (x1 - 1) (by omega) j hs) (fun q1 hq1 => ?_)
  obtain ⟨eq1, xq1⟩ := hq1
  rw [eq1]
  have f1 := rgT (q1.1)
  have f2 := lit_0
  refine Ok.le (fun c3 => ?_) (fun c3 => ?_)
  · exact Ok.ret ⟨j, trivial⟩
  · refine Ok.bind (sf_X8_offsetOf (h0 := h0) n h a (x1 - 1) (by omega) j hs) (fun q4 hq4 => ?_)
    obtain ⟨eq4, xq4⟩ := hq4
    rw [eq4]
    refine Ok.div (by omega) ?_
    refine Ok.bind (sf_X8_soundIn (h0 := h0) n h a x1 q1.1 ((q4.1 + 1) - (q4.1 + 1) / q1.1 * q1.1) (by omega) j hs) (fun q7 hq7 => ?_)
    obtain ⟨jq7, xq7⟩ := hq7
    exact Ok.ret ⟨jq7, trivial⟩
set_option maxRecDepth 100000 in
set_option maxHeartbeats 4000000 in
theorem sfW_X0_spread_112 {h0 : Hp} : ∀ (n : Nat), (∀ (h : Hp) (a : Nat) (b1 : Nat) (l2 : Int32) (l3 : Int32) (l4 : Int32) (l5 : Int32) (l6 : Int32), J h0 h → IsBd a → Sc b1 → (17179869185 : Int) < n → (17179869185 : Int) + (25 - l6.toInt) < n → Ok (W_X0_spread n 112 h a b1 l2 l3 l4 l5 l6) (fun q => J h0 q ∧ True)) := by
  intro n
  induction n with
  | zero => intro h a b1 l2 l3 l4 l5 l6 j hs ht1 hB hM; exfalso; omega
  | succ n ih =>
    intro h a b1 l2 l3 l4 l5 l6 j hs ht1 hB hM
    rw [u_X0_spread]
    refine Ok.neg (by decide) ?_
    refine Ok.pos rfl ?_
    have f1 := lit_25
    have f2 := rgT (l6)
    refine Ok.le (fun c3 => ?_) (fun c3 => ?_)
    · exact Ok.ret ⟨j, trivial⟩
    · have f4 := rgT (l4)
      have f5 := lit_0
      refine Ok.eq (fun c6 => ?_) (fun c6 => ?_)
      · exact Ok.ret ⟨j, trivial⟩
      · refine Ok.bind (sf_X11_lowest (h0 := h0) n h l4 (by omega) j ) (fun q14 hq14 => ?_)
        obtain ⟨eq14, xq14⟩ := hq14
        rw [eq14]
        refine Ok.bind (sf_X8_soundFromTheLeft (h0 := h0) n h b1 q14.1 (by omega) j ht1) (fun q16 hq16 => ?_)
        obtain ⟨jq16, xq16⟩ := hq16
        have f7 := lit_1
        first | have f8 := adT (l6) (1) (by omega) (by omega) | have f8 := adT (l6) (1)
        have f9 := rgT (l6 + 1)
        exact ih q16 a b1 l2 l3 ((l4 : Int32) &&& ((l4 - 1) : Int32)) l5 (l6 + 1) jq16 hs ht1  (by omega) (by omega)
set_option maxRecDepth 100000 in
set_option maxHeartbeats 4000000 in
theorem sfW_X0_spread_30 {h0 : Hp} : ∀ (n : Nat), (∀ (h : Hp) (a : Nat) (b1 : Nat) (l2 : Int32) (l3 : Int32) (l4 : Int32) (l5 : Int32) (l6 : Int32), J h0 h → IsBd a → Sc b1 → (34359738369 : Int) < n → (34359738369 : Int) + (25 - l6.toInt) < n → Ok (W_X0_spread n 30 h a b1 l2 l3 l4 l5 l6) (fun q => J h0 q ∧ True)) := by
  intro n
  induction n with
  | zero => intro h a b1 l2 l3 l4 l5 l6 j hs ht1 hB hM; exfalso; omega
  | succ n ih =>
    intro h a b1 l2 l3 l4 l5 l6 j hs ht1 hB hM
    rw [u_X0_spread]
    refine Ok.pos rfl ?_
    have f1 := lit_25
    have f2 := rgT (l6)
    refine Ok.le (fun c3 => ?_) (fun c3 => ?_)
    · have f4 := lit_0
      exact sfW_X0_spread_112 (h0 := h0) n h a b1 l2 l3 l4 l5 0 j hs ht1  (by omega) (by omega)
    · have f5 := rgT (l5)
      have f6 := lit_0
      refine Ok.eq (fun c7 => ?_) (fun c7 => ?_)
      · exact sfW_X0_spread_112 (h0 := h0) n h a b1 l2 l3 l4 l5 0 j hs ht1  (by omega) (by omega)
      · have f8 := rgT (l3)
        refine Ok.le (fun c9 => ?_) (fun c9 => ?_)
        · exact sfW_X0_spread_112 (h0 := h0) n h a b1 l2 l3 l4 l5 0 j hs ht1  (by omega) (by omega)
        · refine Ok.bind (sf_X11_lowest (h0 := h0) n h l5 (by omega) j ) (fun q4 hq4 => ?_)
          obtain ⟨eq4, xq4⟩ := hq4
          rw [eq4]
          refine Ok.bind (sf_X0_isWet (h0 := h0) n h a (hi h b1 0) q4.1 l2 (by omega) j hs) (fun q6 hq6 => ?_)
          obtain ⟨eq6, xq6⟩ := hq6
          rw [eq6]
          have f10 := rgT (q6.1)
          refine Ok.eq (fun c11 => ?_) (fun c11 => ?_)
          · have f12 := lit_1
            first | have f13 := adT (l6) (1) (by omega) (by omega) | have f13 := adT (l6) (1)
            have f14 := rgT (l6 + 1)
            exact ih h a b1 l2 l3 l4 ((l5 : Int32) &&& ((l5 - 1) : Int32)) (l6 + 1) j hs ht1  (by omega) (by omega)
          · refine Ok.bind (sf_X0_ask (h0 := h0) n h a b1 2 q4.1 0 0 (by omega) j hs ht1) (fun q9 hq9 => ?_)
            obtain ⟨jq9, xq9⟩ := hq9
            have f15 := rgT (q9.1)
            refine Ok.le (fun c16 => ?_) (fun c16 => ?_)
            · have f17 := lit_1
              first | have f18 := adT (l6) (1) (by omega) (by omega) | have f18 := adT (l6) (1)
              have f19 := rgT (l6 + 1)
              exact ih q9.2 a b1 l2 l3 l4 ((l5 : Int32) &&& ((l5 - 1) : Int32)) (l6 + 1) jq9 hs ht1  (by omega) (by omega)
            · have f20 := lit_1
              first | have f21 := adT (l6) (1) (by omega) (by omega) | have f21 := adT (l6) (1)
              have f22 := rgT (l6 + 1)
              exact ih q9.2 a b1 l2 (l3 + (-1)) ((l4 : Int32) ||| (((1 : Int32) <<< (((q4.1 + 1) : Int32) &&& 31)) : Int32)) ((l5 : Int32) &&& ((l5 - 1) : Int32)) (l6 + 1) jq9 hs ht1  (by omega) (by omega)
set_option maxRecDepth 100000 in
set_option maxHeartbeats 4000000 in
theorem sf_X0_spread {h0 : Hp} (n : Nat) (h : Hp) (a : Nat) (b1 : Nat) (x2 : Int32) (hn : 51539607553 ≤ n) (j : J h0 h) (hs : IsBd a) (ht1 : Sc b1) : Ok (F_X0_spread n h a b1 x2) (fun q => J h0 q ∧ True) := by
  unfold F_X0_spread
  refine Ok.bind (sf_J6_bitCount_0f7a4 (h0 := h0) n h (hi h b1 3) (by omega) j ) (fun q18 hq18 => ?_)
  obtain ⟨eq18, xq18⟩ := hq18
  rw [eq18]
  refine Ok.bind (sf_X3_quietOnTheRight (h0 := h0) n h (a + 1) (hi h b1 3) (by omega) j hs.2.1) (fun q20 hq20 => ?_)
  obtain ⟨eq20, xq20⟩ := hq20
  rw [eq20]
  have f1 := lit_0
  exact sfW_X0_spread_30 (h0 := h0) n h a b1 x2 (8 - q18.1) 0 q20.1 0 j hs ht1  (by omega) (by omega)
set_option maxRecDepth 100000 in
set_option maxHeartbeats 4000000 in
theorem sfW_X0_soak_3 {h0 : Hp} : ∀ (n : Nat), (∀ (h : Hp) (a : Nat) (b1 : Nat) (l2 : Int32) (l3 : Int32) (l4 : Int32), J h0 h → IsBd a → Sc b1 → (51539607553 : Int) < n → (51539607553 : Int) + (l2.toInt - l4.toInt) < n → Ok (W_X0_soak n 3 h a b1 l2 l3 l4) (fun q => J h0 q ∧ True)) := by
  intro n
  induction n with
  | zero => intro h a b1 l2 l3 l4 j hs ht1 hB hM; exfalso; omega
  | succ n ih =>
    intro h a b1 l2 l3 l4 j hs ht1 hB hM
    rw [u_X0_soak]
    refine Ok.pos rfl ?_
    have f1 := rgT (l2)
    have f2 := rgT (l4)
    refine Ok.le (fun c3 => ?_) (fun c3 => ?_)
    · exact Ok.ret ⟨j, trivial⟩
    · refine Ok.bind (sf_X0_canSpread (h0 := h0) n h a b1 (by omega) j hs ht1) (fun q2 hq2 => ?_)
      obtain ⟨eq2, xq2⟩ := hq2
      rw [eq2]
      have f4 := rgT (q2.1)
      have f5 := lit_0
      refine Ok.eq (fun c6 => ?_) (fun c6 => ?_)
      · exact Ok.ret ⟨j, trivial⟩
      · generalize eg7 : wrI h b1 0 ((hi h b1 0) + 1) = g7
        have jg7 : J h0 g7 := JwI eg7 j (ncO_nc (scO ht1).1)
        refine Ok.bind (sf_X0_spread (h0 := h0) n g7 a b1 l3 (by omega) jg7 hs ht1) (fun q5 hq5 => ?_)
        obtain ⟨jq5, xq5⟩ := hq5
        have f8 := lit_1
        first | have f9 := adT (l4) (1) (by omega) (by omega) | have f9 := adT (l4) (1)
        have f10 := rgT (l4 + 1)
        exact ih q5 a b1 l2 l3 (l4 + 1) jq5 hs ht1  (by omega) (by omega)
set_option maxRecDepth 100000 in
set_option maxHeartbeats 4000000 in
theorem sf_X0_soak {h0 : Hp} (n : Nat) (h : Hp) (a : Nat) (b1 : Nat) (x2 : Int32) (x3 : Int32) (hn : 68719476737 ≤ n) (j : J h0 h) (hs : IsBd a) (ht1 : Sc b1) : Ok (F_X0_soak n h a b1 x2 x3) (fun q => J h0 q ∧ True) := by
  unfold F_X0_soak
  have f1 := rgT (x2)
  have f2 := lit_0
  exact sfW_X0_soak_3 (h0 := h0) n h a b1 x2 x3 0 j hs ht1  (by omega) (by omega)
set_option maxRecDepth 100000 in
set_option maxHeartbeats 4000000 in
theorem sf_X11_tunesIn {h0 : Hp} (n : Nat) (h : Hp) (x1 : Int32) (hn : 68719476737 ≤ n) (j : J h0 h) : Ok (F_X11_tunesIn n h x1) (fun q => J h0 q.2 ∧ True) := by
  unfold F_X11_tunesIn
  have f1 := rgT (x1)
  refine Ok.bind (sf_X11_isSpan (h0 := h0) n h x1 (by omega) j ) (fun q1 hq1 => ?_)
  obtain ⟨eq1, xq1⟩ := hq1
  rw [eq1]
  have f2 := rgT (q1.1)
  have f3 := lit_0
  refine Ok.eq (fun c4 => ?_) (fun c4 => ?_)
  · exact Ok.ret ⟨j, trivial⟩
  · refine Ok.bind (sf_X8_become (h0 := h0) n h 34 30 (by omega) j sc_34 sc_30) (fun q4 hq4 => ?_)
    obtain ⟨jq4, xq4⟩ := hq4
    refine Ok.bind (sf_X0_soak (h0 := h0) n q4 23 34 x1 (hi q4 23 4) (by omega) jq4 bd_23 sc_34) (fun q6 hq6 => ?_)
    obtain ⟨jq6, xq6⟩ := hq6
    exact Ok.ret ⟨jq6, trivial⟩
set_option maxRecDepth 100000 in
set_option maxHeartbeats 4000000 in
theorem sfW_X11_year_37 {h0 : Hp} : ∀ (n : Nat), (∀ (h : Hp) (l1 : Int32) (l2 : Int32) (l3 : Int32) (l4 : Int32) (l5 : Int32), J h0 h → (68719476737 : Int) < n → (68719476737 : Int) + (l3.toInt - l5.toInt) < n → Ok (W_X11_year n 37 h l1 l2 l3 l4 l5) (fun q => J h0 q.2 ∧ True)) := by
  intro n
  induction n with
  | zero => intro h l1 l2 l3 l4 l5 j hB hM; exfalso; omega
  | succ n ih =>
    intro h l1 l2 l3 l4 l5 j hB hM
    rw [u_X11_year]
    refine Ok.pos rfl ?_
    have f1 := rgT (l3)
    have f2 := rgT (l5)
    refine Ok.le (fun c3 => ?_) (fun c3 => ?_)
    · exact Ok.ret ⟨j, trivial⟩
    · refine Ok.bind (sf_X8_become (h0 := h0) n h 34 30 (by omega) j sc_34 sc_30) (fun q2 hq2 => ?_)
      obtain ⟨jq2, xq2⟩ := hq2
      refine Ok.bind (sf_X0_soak (h0 := h0) n q2 23 34 l2 ((hi q2 23 4) + l5) (by omega) jq2 bd_23 sc_34) (fun q4 hq4 => ?_)
      obtain ⟨jq4, xq4⟩ := hq4
      have f4 := rgT (l1)
      refine Ok.bind (sf_X8_isTuned (h0 := h0) n q4 34 l1 (by omega) jq4 sc_34) (fun q6 hq6 => ?_)
      obtain ⟨eq6, xq6⟩ := hq6
      rw [eq6]
      have f5 := rgT (q6.1)
      have f6 := lit_0
      refine Ok.eq (fun c7 => ?_) (fun c7 => ?_)
      · have f8 := lit_1
        first | have f9 := adT (l5) (1) (by omega) (by omega) | have f9 := adT (l5) (1)
        have f10 := rgT (l5 + 1)
        exact ih q4 l1 l2 l3 l4 (l5 + 1) jq4   (by omega) (by omega)
      · have f11 := lit_1
        first | have f12 := adT (l5) (1) (by omega) (by omega) | have f12 := adT (l5) (1)
        have f13 := rgT (l5 + 1)
        exact ih q4 l1 l2 l3 (l4 + 1) (l5 + 1) jq4   (by omega) (by omega)
set_option maxRecDepth 100000 in
set_option maxHeartbeats 4000000 in
theorem sf_X11_year {h0 : Hp} (n : Nat) (h : Hp) (x1 : Int32) (x2 : Int32) (x3 : Int32) (hn : 85899345921 ≤ n) (j : J h0 h) : Ok (F_X11_year n h x1 x2 x3) (fun q => J h0 q.2 ∧ True) := by
  unfold F_X11_year
  refine Ok.bind (sf_X3_has (h0 := h0) n h 24 x1 (by omega) j fd_24) (fun q9 hq9 => ?_)
  obtain ⟨eq9, xq9⟩ := hq9
  rw [eq9]
  have f1 := rgT (q9.1)
  have f2 := lit_0
  refine Ok.eq (fun c3 => ?_) (fun c3 => ?_)
  · exact Ok.ret ⟨j, trivial⟩
  · have f4 := rgT (x2)
    refine Ok.bind (sf_X11_isSpan (h0 := h0) n h x2 (by omega) j ) (fun q12 hq12 => ?_)
    obtain ⟨eq12, xq12⟩ := hq12
    rw [eq12]
    have f5 := rgT (q12.1)
    refine Ok.eq (fun c6 => ?_) (fun c6 => ?_)
    · exact Ok.ret ⟨j, trivial⟩
    · have f7 := rgT (x3)
      have f8 := lit_1
      refine Ok.lt (fun c9 => ?_) (fun c9 => ?_)
      · exact Ok.ret ⟨j, trivial⟩
      · have f10 := lit_20
        refine Ok.le (fun c11 => ?_) (fun c11 => ?_)
        · exact sfW_X11_year_37 (h0 := h0) n h x1 x2 x3 0 0 j   (by omega) (by omega)
        · exact Ok.ret ⟨j, trivial⟩
set_option maxRecDepth 100000 in
set_option maxHeartbeats 4000000 in
theorem sfW_X0_goOn_2 {h0 : Hp} : ∀ (n : Nat), (∀ (h : Hp) (a : Nat) (b1 : Nat) (l2 : Int32) (l3 : Int32), J h0 h → IsBd a → Sc b1 → (51539607553 : Int) < n → (51539607553 : Int) + (l2.toInt - l3.toInt) < n → Ok (W_X0_goOn n 2 h a b1 l2 l3) (fun q => J h0 q ∧ True)) := by
  intro n
  induction n with
  | zero => intro h a b1 l2 l3 j hs ht1 hB hM; exfalso; omega
  | succ n ih =>
    intro h a b1 l2 l3 j hs ht1 hB hM
    rw [u_X0_goOn]
    refine Ok.pos rfl ?_
    have f1 := rgT (l2)
    have f2 := rgT (l3)
    refine Ok.le (fun c3 => ?_) (fun c3 => ?_)
    · exact Ok.ret ⟨j, trivial⟩
    · refine Ok.bind (sf_X0_walk (h0 := h0) n h a b1 (by omega) j hs ht1) (fun q2 hq2 => ?_)
      obtain ⟨jq2, xq2⟩ := hq2
      refine Ok.bind (sf_X0_spread (h0 := h0) n q2 a b1 (hi q2 a 4) (by omega) jq2 hs ht1) (fun q4 hq4 => ?_)
      obtain ⟨jq4, xq4⟩ := hq4
      have f4 := lit_1
      first | have f5 := adT (l3) (1) (by omega) (by omega) | have f5 := adT (l3) (1)
      have f6 := rgT (l3 + 1)
      exact ih q4 a b1 l2 (l3 + 1) jq4 hs ht1  (by omega) (by omega)
set_option maxRecDepth 100000 in
set_option maxHeartbeats 4000000 in
theorem sf_X0_goOn {h0 : Hp} (n : Nat) (h : Hp) (a : Nat) (b1 : Nat) (x2 : Int32) (hn : 68719476737 ≤ n) (j : J h0 h) (hs : IsBd a) (ht1 : Sc b1) : Ok (F_X0_goOn n h a b1 x2) (fun q => J h0 q ∧ True) := by
  unfold F_X0_goOn
  have f1 := rgT (x2)
  have f2 := lit_0
  exact sfW_X0_goOn_2 (h0 := h0) n h a b1 x2 0 j hs ht1  (by omega) (by omega)
set_option maxRecDepth 100000 in
set_option maxHeartbeats 4000000 in
theorem sf_X11_beats {h0 : Hp} (n : Nat) (h : Hp) (x1 : Int32) (hn : 68719476737 ≤ n) (j : J h0 h) : Ok (F_X11_beats n h x1) (fun q => J h0 q.2 ∧ True) := by
  unfold F_X11_beats
  have f1 := rgT (x1)
  refine Ok.bind (sf_X11_isSpan (h0 := h0) n h x1 (by omega) j ) (fun q1 hq1 => ?_)
  obtain ⟨eq1, xq1⟩ := hq1
  rw [eq1]
  have f2 := rgT (q1.1)
  have f3 := lit_0
  refine Ok.eq (fun c4 => ?_) (fun c4 => ?_)
  · exact Ok.ret ⟨j, trivial⟩
  · refine Ok.le (fun c5 => ?_) (fun c5 => ?_)
    · exact Ok.ret ⟨j, trivial⟩
    · refine Ok.bind (sf_X6_keep (h0 := h0) n h 30 (by omega) j sc_30) (fun q5 hq5 => ?_)
      obtain ⟨jq5, xq5⟩ := hq5
      refine Ok.bind (sf_X0_goOn (h0 := h0) n q5 23 30 x1 (by omega) jq5 bd_23 sc_30) (fun q7 hq7 => ?_)
      obtain ⟨jq7, xq7⟩ := hq7
      exact Ok.ret ⟨jq7, trivial⟩
set_option maxRecDepth 100000 in
set_option maxHeartbeats 4000000 in
theorem sf_X11_then {h0 : Hp} (n : Nat) (h : Hp) (x1 : Int32) (x2 : Int32) (x3 : Int32) (hn : 68719476737 ≤ n) (j : J h0 h) : Ok (F_X11_then n h x1 x2 x3) (fun q => J h0 q.2 ∧ True) := by
  unfold F_X11_then
  have f1 := rgT (x1)
  refine Ok.bind (sf_X0_hasGoer (h0 := h0) n h 23 x1 (by omega) j bd_23) (fun q1 hq1 => ?_)
  obtain ⟨eq1, xq1⟩ := hq1
  rw [eq1]
  have f2 := rgT (q1.1)
  have f3 := lit_0
  refine Ok.eq (fun c4 => ?_) (fun c4 => ?_)
  · exact Ok.ret ⟨j, trivial⟩
  · have f5 := rgT (x2)
    refine Ok.bind (sf_X11_isSpan (h0 := h0) n h x2 (by omega) j ) (fun q4 hq4 => ?_)
    obtain ⟨eq4, xq4⟩ := hq4
    rw [eq4]
    have f6 := rgT (q4.1)
    refine Ok.eq (fun c7 => ?_) (fun c7 => ?_)
    · exact Ok.ret ⟨j, trivial⟩
    · refine Ok.bind (sf_X11_isNoughtOrOne (h0 := h0) n h x3 (by omega) j ) (fun q7 hq7 => ?_)
      obtain ⟨eq7, xq7⟩ := hq7
      rw [eq7]
      have f8 := rgT (q7.1)
      refine Ok.eq (fun c9 => ?_) (fun c9 => ?_)
      · exact Ok.ret ⟨j, trivial⟩
      · refine Ok.bind (sf_X8_become (h0 := h0) n h 34 30 (by omega) j sc_34 sc_30) (fun q10 hq10 => ?_)
        obtain ⟨jq10, xq10⟩ := hq10
        refine Ok.bind (sf_X0_goOn (h0 := h0) n q10 23 34 x2 (by omega) jq10 bd_23 sc_34) (fun q12 hq12 => ?_)
        obtain ⟨jq12, xq12⟩ := hq12
        have f10 := rgT (x3)
        refine Ok.eq (fun c11 => ?_) (fun c11 => ?_)
        · refine Ok.chk (ixT (by omega) (by omega)) (fun c12 => ?_)
          exact Ok.ret ⟨jq12, trivial⟩
        · refine Ok.chk (ixT (by omega) (by omega)) (fun c13 => ?_)
          exact Ok.ret ⟨jq12, trivial⟩
end
