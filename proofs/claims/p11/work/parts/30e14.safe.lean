/-! the class comes to its end, 15 -/
set_option maxRecDepth 100000 in
set_option maxHeartbeats 4000000 in
theorem sf_X0_stirred {h0 : Hp} (n : Nat) (h : Hp) (x1 : Int32) (x2 : Int32) (hn : 1 ≤ n) (j : J h0 h) : Ok (F_X0_stirred n h x1 x2) (fun q => q.2 = h ∧ True) := by
  unfold F_X0_stirred
  exact Ok.ret ⟨rfl, trivial⟩
set_option maxRecDepth 100000 in
set_option maxHeartbeats 4000000 in
theorem sf_X0_lot {h0 : Hp} (n : Nat) (h : Hp) (x1 : Int32) (x2 : Int32) (x3 : Int32) (hn : 1 ≤ n) (j : J h0 h) : Ok (F_X0_lot n h x1 x2 x3) (fun q => q.2 = h ∧ True) := by
  unfold F_X0_lot
  refine Ok.bind (sf_X0_stirred (h0 := h0) n h x2 197 (by omega) j ) (fun q1 hq1 => ?_)
  obtain ⟨eq1, xq1⟩ := hq1
  rw [eq1]
  refine Ok.bind (sf_X0_stirred (h0 := h0) n h q1.1 x3 (by omega) j ) (fun q3 hq3 => ?_)
  obtain ⟨eq3, xq3⟩ := hq3
  rw [eq3]
  have f1 := rgT (x1)
  have f2 := lit_0
  refine Ok.le (fun c3 => ?_) (fun c3 => ?_)
  · exact Ok.ret ⟨rfl, trivial⟩
  · refine Ok.div (by omega) ?_
    exact Ok.ret ⟨rfl, trivial⟩
set_option maxRecDepth 100000 in
set_option maxHeartbeats 4000000 in
theorem sf_X0_isWet {h0 : Hp} (n : Nat) (h : Hp) (a : Nat) (x1 : Int32) (x2 : Int32) (x3 : Int32) (hn : 1 ≤ n) (j : J h0 h) (hs : IsBd a) : Ok (F_X0_isWet n h a x1 x2 x3) (fun q => q.2 = h ∧ True) := by
  unfold F_X0_isWet
  refine Ok.bind (sf_X0_lot (h0 := h0) n h 100 x3 ((32 * x1) + x2) (by omega) j ) (fun q1 hq1 => ?_)
  obtain ⟨eq1, xq1⟩ := hq1
  rw [eq1]
  have f1 := rgT (hi h a 3)
  have f2 := rgT (q1.1)
  refine Ok.le (fun c3 => ?_) (fun c3 => ?_)
  · exact Ok.ret ⟨rfl, trivial⟩
  · exact Ok.ret ⟨rfl, trivial⟩
set_option maxRecDepth 100000 in
set_option maxHeartbeats 4000000 in
theorem sf_X8_soundFromTheLeft {h0 : Hp} (n : Nat) (h : Hp) (a : Nat) (x1 : Int32) (hn : 1 ≤ n) (j : J h0 h) (hs : Sc a) : Ok (F_X8_soundFromTheLeft n h a x1) (fun q => J h0 q ∧ True) := by
  unfold F_X8_soundFromTheLeft
  refine Ok.bind (sf_X8_beatOf (h0 := h0) n h a (x1 - 1) (by omega) j hs) (fun q1 hq1 => ?_)
  obtain ⟨eq1, xq1⟩ := hq1
  rw [eq1]
  have f1 := rgT (q1.1)
  have f2 := lit_0
  refine Ok.le (fun c3 => ?_) (fun c3 => ?_)
  · exact Ok.ret ⟨j, trivial⟩
  · refine Ok.bind (sf_X8_offsetOf (h0 := h0) n h a (x1 - 1) (by omega) j hs) (fun q4 hq4 => ?_)
    obtain ⟨eq4, xq4⟩ := hq4
    rw [eq4]
    refine Ok.div (by omega) ?_
    refine Ok.bind (sf_X8_soundIn (h0 := h0) n h a x1 q1.1 ((q4.1 + 1) - (q4.1 + 1) / q1.1 * q1.1) (by omega) j hs) (fun q7 hq7 => ?_)
    obtain ⟨jq7, xq7⟩ := hq7
    exact Ok.ret ⟨jq7, trivial⟩
set_option maxRecDepth 100000 in
set_option maxHeartbeats 4000000 in
theorem sfW_X0_spread_112 {h0 : Hp} : ∀ (n : Nat), (∀ (h : Hp) (a : Nat) (b1 : Nat) (l2 : Int32) (l3 : Int32) (l4 : Int32) (l5 : Int32) (l6 : Int32), J h0 h → IsBd a → Sc b1 → (17179869185 : Int) < n → (17179869185 : Int) + (25 - l6.toInt) < n → Ok (W_X0_spread n 112 h a b1 l2 l3 l4 l5 l6) (fun q => J h0 q ∧ True)) := by
  intro n
  induction n with
  | zero => intro h a b1 l2 l3 l4 l5 l6 j hs ht1 hB hM; exfalso; omega
  | succ n ih =>
    intro h a b1 l2 l3 l4 l5 l6 j hs ht1 hB hM
    rw [u_X0_spread]
    refine Ok.neg (by decide) ?_
    refine Ok.pos rfl ?_
    have f1 := lit_25
    have f2 := rgT (l6)
    refine Ok.le (fun c3 => ?_) (fun c3 => ?_)
    · exact Ok.ret ⟨j, trivial⟩
    · have f4 := rgT (l4)
      have f5 := lit_0
      refine Ok.eq (fun c6 => ?_) (fun c6 => ?_)
      · exact Ok.ret ⟨j, trivial⟩
      · refine Ok.bind (sf_X11_lowest (h0 := h0) n h l4 (by omega) j ) (fun q14 hq14 => ?_)
        obtain ⟨eq14, xq14⟩ := hq14
        rw [eq14]
        refine Ok.bind (sf_X8_soundFromTheLeft (h0 := h0) n h b1 q14.1 (by omega) j ht1) (fun q16 hq16 => ?_)
        obtain ⟨jq16, xq16⟩ := hq16
        have f7 := lit_1
        first | have f8 := adT (l6) (1) (by omega) (by omega) | have f8 := adT (l6) (1)
        have f9 := rgT (l6 + 1)
        exact ih q16 a b1 l2 l3 ((l4 : Int32) &&& ((l4 - 1) : Int32)) l5 (l6 + 1) jq16 hs ht1  (by omega) (by omega)
set_option maxRecDepth 100000 in
set_option maxHeartbeats 4000000 in
theorem sfW_X0_spread_30 {h0 : Hp} : ∀ (n : Nat), (∀ (h : Hp) (a : Nat) (b1 : Nat) (l2 : Int32) (l3 : Int32) (l4 : Int32) (l5 : Int32) (l6 : Int32), J h0 h → IsBd a → Sc b1 → (34359738369 : Int) < n → (34359738369 : Int) + (25 - l6.toInt) < n → Ok (W_X0_spread n 30 h a b1 l2 l3 l4 l5 l6) (fun q => J h0 q ∧ True)) := by
  intro n
  induction n with
  | zero => intro h a b1 l2 l3 l4 l5 l6 j hs ht1 hB hM; exfalso; omega
  | succ n ih =>
    intro h a b1 l2 l3 l4 l5 l6 j hs ht1 hB hM
    rw [u_X0_spread]
    refine Ok.pos rfl ?_
    have f1 := lit_25
    have f2 := rgT (l6)
    refine Ok.le (fun c3 => ?_) (fun c3 => ?_)
    · have f4 := lit_0
      exact sfW_X0_spread_112 (h0 := h0) n h a b1 l2 l3 l4 l5 0 j hs ht1  (by omega) (by omega)
    · have f5 := rgT (l5)
      have f6 := lit_0
      refine Ok.eq (fun c7 => ?_) (fun c7 => ?_)
      · exact sfW_X0_spread_112 (h0 := h0) n h a b1 l2 l3 l4 l5 0 j hs ht1  (by omega) (by omega)
      · have f8 := rgT (l3)
        refine Ok.le (fun c9 => ?_) (fun c9 => ?_)
        · exact sfW_X0_spread_112 (h0 := h0) n h a b1 l2 l3 l4 l5 0 j hs ht1  (by omega) (by omega)
        · refine Ok.bind (sf_X11_lowest (h0 := h0) n h l5 (by omega) j ) (fun q4 hq4 => ?_)
          obtain ⟨eq4, xq4⟩ := hq4
          rw [eq4]
          refine Ok.bind (sf_X0_isWet (h0 := h0) n h a (hi h b1 0) q4.1 l2 (by omega) j hs) (fun q6 hq6 => ?_)
          obtain ⟨eq6, xq6⟩ := hq6
          rw [eq6]
          have f10 := rgT (q6.1)
          refine Ok.eq (fun c11 => ?_) (fun c11 => ?_)
          · have f12 := lit_1
            first | have f13 := adT (l6) (1) (by omega) (by omega) | have f13 := adT (l6) (1)
            have f14 := rgT (l6 + 1)
            exact ih h a b1 l2 l3 l4 ((l5 : Int32) &&& ((l5 - 1) : Int32)) (l6 + 1) j hs ht1  (by omega) (by omega)
          · refine Ok.bind (sf_X0_ask (h0 := h0) n h a b1 2 q4.1 0 0 (by omega) j hs ht1) (fun q9 hq9 => ?_)
            obtain ⟨jq9, xq9⟩ := hq9
            have f15 := rgT (q9.1)
            refine Ok.le (fun c16 => ?_) (fun c16 => ?_)
            · have f17 := lit_1
              first | have f18 := adT (l6) (1) (by omega) (by omega) | have f18 := adT (l6) (1)
              have f19 := rgT (l6 + 1)
              exact ih q9.2 a b1 l2 l3 l4 ((l5 : Int32) &&& ((l5 - 1) : Int32)) (l6 + 1) jq9 hs ht1  (by omega) (by omega)
            · have f20 := lit_1
              first | have f21 := adT (l6) (1) (by omega) (by omega) | have f21 := adT (l6) (1)
              have f22 := rgT (l6 + 1)
              exact ih q9.2 a b1 l2 (l3 + (-1)) ((l4 : Int32) ||| (((1 : Int32) <<< (((q4.1 + 1) : Int32) &&& 31)) : Int32)) ((l5 : Int32) &&& ((l5 - 1) : Int32)) (l6 + 1) jq9 hs ht1  (by omega) (by omega)
set_option maxRecDepth 100000 in
set_option maxHeartbeats 4000000 in
theorem sf_X0_spread {h0 : Hp} (n : Nat) (h : Hp) (a : Nat) (b1 : Nat) (x2 : Int32) (hn : 51539607553 ≤ n) (j : J h0 h) (hs : IsBd a) (ht1 : Sc b1) : Ok (F_X0_spread n h a b1 x2) (fun q => J h0 q ∧ True) := by
  unfold F_X0_spread
  refine Ok.bind (sf_J6_bitCount_0f7a4 (h0 := h0) n h (hi h b1 3) (by omega) j ) (fun q18 hq18 => ?_)
  obtain ⟨eq18, xq18⟩ := hq18
  rw [eq18]
  refine Ok.bind (sf_X3_quietOnTheRight (h0 := h0) n h (a + 1) (hi h b1 3) (by omega) j hs.2.1) (fun q20 hq20 => ?_)
  obtain ⟨eq20, xq20⟩ := hq20
  rw [eq20]
  have f1 := lit_0
  exact sfW_X0_spread_30 (h0 := h0) n h a b1 x2 (8 - q18.1) 0 q20.1 0 j hs ht1  (by omega) (by omega)
set_option maxRecDepth 100000 in
set_option maxHeartbeats 4000000 in
theorem sfW_X0_soak_3 {h0 : Hp} : ∀ (n : Nat), (∀ (h : Hp) (a : Nat) (b1 : Nat) (l2 : Int32) (l3 : Int32) (l4 : Int32), J h0 h → IsBd a → Sc b1 → (51539607553 : Int) < n → (51539607553 : Int) + (l2.toInt - l4.toInt) < n → Ok (W_X0_soak n 3 h a b1 l2 l3 l4) (fun q => J h0 q ∧ True)) := by
  intro n
  induction n with
  | zero => intro h a b1 l2 l3 l4 j hs ht1 hB hM; exfalso; omega
  | succ n ih =>
    intro h a b1 l2 l3 l4 j hs ht1 hB hM
    rw [u_X0_soak]
    refine Ok.pos rfl ?_
    have f1 := rgT (l2)
    have f2 := rgT (l4)
    refine Ok.le (fun c3 => ?_) (fun c3 => ?_)
    · exact Ok.ret ⟨j, trivial⟩
    · refine Ok.bind (sf_X0_canSpread (h0 := h0) n h a b1 (by omega) j hs ht1) (fun q2 hq2 => ?_)
      obtain ⟨eq2, xq2⟩ := hq2
      rw [eq2]
      have f4 := rgT (q2.1)
      have f5 := lit_0
      refine Ok.eq (fun c6 => ?_) (fun c6 => ?_)
      · exact Ok.ret ⟨j, trivial⟩
      · generalize eg7 : wrI h b1 0 ((hi h b1 0) + 1) = g7
        have jg7 : J h0 g7 := JwI eg7 j (ncO_nc (scO ht1).1)
        refine Ok.bind (sf_X0_spread (h0 := h0) n g7 a b1 l3 (by omega) jg7 hs ht1) (fun q5 hq5 => ?_)
        obtain ⟨jq5, xq5⟩ := hq5
        have f8 := lit_1
        first | have f9 := adT (l4) (1) (by omega) (by omega) | have f9 := adT (l4) (1)
        have f10 := rgT (l4 + 1)
        exact ih q5 a b1 l2 l3 (l4 + 1) jq5 hs ht1  (by omega) (by omega)
set_option maxRecDepth 100000 in
set_option maxHeartbeats 4000000 in
theorem sf_X0_soak {h0 : Hp} (n : Nat) (h : Hp) (a : Nat) (b1 : Nat) (x2 : Int32) (x3 : Int32) (hn : 68719476737 ≤ n) (j : J h0 h) (hs : IsBd a) (ht1 : Sc b1) : Ok (F_X0_soak n h a b1 x2 x3) (fun q => J h0 q ∧ True) := by
  unfold F_X0_soak
  have f1 := rgT (x2)
  have f2 := lit_0
  exact sfW_X0_soak_3 (h0 := h0) n h a b1 x2 x3 0 j hs ht1  (by omega) (by omega)
set_option maxRecDepth 100000 in
set_option maxHeartbeats 4000000 in
theorem sf_X11_tunesIn {h0 : Hp} (n : Nat) (h : Hp) (x1 : Int32) (hn : 68719476737 ≤ n) (j : J h0 h) : Ok (F_X11_tunesIn n h x1) (fun q => J h0 q.2 ∧ True) := by
  unfold F_X11_tunesIn
  have f1 := rgT (x1)
  refine Ok.bind (sf_X11_isSpan (h0 := h0) n h x1 (by omega) j ) (fun q1 hq1 => ?_)
  obtain ⟨eq1, xq1⟩ := hq1
  rw [eq1]
  have f2 := rgT (q1.1)
  have f3 := lit_0
  refine Ok.eq (fun c4 => ?_) (fun c4 => ?_)
  · exact Ok.ret ⟨j, trivial⟩
  · refine Ok.bind (sf_X8_become (h0 := h0) n h 34 30 (by omega) j sc_34 sc_30) (fun q4 hq4 => ?_)
    obtain ⟨jq4, xq4⟩ := hq4
    refine Ok.bind (sf_X0_soak (h0 := h0) n q4 23 34 x1 (hi q4 23 4) (by omega) jq4 bd_23 sc_34) (fun q6 hq6 => ?_)
    obtain ⟨jq6, xq6⟩ := hq6
    exact Ok.ret ⟨jq6, trivial⟩
set_option maxRecDepth 100000 in
set_option maxHeartbeats 4000000 in
theorem sfW_X11_year_37 {h0 : Hp} : ∀ (n : Nat), (∀ (h : Hp) (l1 : Int32) (l2 : Int32) (l3 : Int32) (l4 : Int32) (l5 : Int32), J h0 h → (68719476737 : Int) < n → (68719476737 : Int) + (l3.toInt - l5.toInt) < n → Ok (W_X11_year n 37 h l1 l2 l3 l4 l5) (fun q => J h0 q.2 ∧ True)) := by
  intro n
  induction n with
  | zero => intro h l1 l2 l3 l4 l5 j hB hM; exfalso; omega
  | succ n ih =>
    intro h l1 l2 l3 l4 l5 j hB hM
    rw [u_X11_year]
    refine Ok.pos rfl ?_
    have f1 := rgT (l3)
    have f2 := rgT (l5)
    refine Ok.le (fun c3 => ?_) (fun c3 => ?_)
    · exact Ok.ret ⟨j, trivial⟩
    · refine Ok.bind (sf_X8_become (h0 := h0) n h 34 30 (by omega) j sc_34 sc_30) (fun q2 hq2 => ?_)
      obtain ⟨jq2, xq2⟩ := hq2
      refine Ok.bind (sf_X0_soak (h0 := h0) n q2 23 34 l2 ((hi q2 23 4) + l5) (by omega) jq2 bd_23 sc_34) (fun q4 hq4 => ?_)
      obtain ⟨jq4, xq4⟩ := hq4
      have f4 := rgT (l1)
      refine Ok.bind (sf_X8_isTuned (h0 := h0) n q4 34 l1 (by omega) jq4 sc_34) (fun q6 hq6 => ?_)
      obtain ⟨eq6, xq6⟩ := hq6
      rw [eq6]
      have f5 := rgT (q6.1)
      have f6 := lit_0
      refine Ok.eq (fun c7 => ?_) (fun c7 => ?_)
      · have f8 := lit_1
        first | have f9 := adT (l5) (1) (by omega) (by omega) | have f9 := adT (l5) (1)
        have f10 := rgT (l5 + 1)
        exact ih q4 l1 l2 l3 l4 (l5 + 1) jq4   (by omega) (by omega)
      · have f11 := lit_1
        first | have f12 := adT (l5) (1) (by omega) (by omega) | have f12 := adT (l5) (1)
        have f13 := rgT (l5 + 1)
        exact ih q4 l1 l2 l3 (l4 + 1) (l5 + 1) jq4   (by omega) (by omega)
set_option maxRecDepth 100000 in
set_option maxHeartbeats 4000000 in
theorem sf_X11_year {h0 : Hp} (n : Nat) (h : Hp) (x1 : Int32) (x2 : Int32) (x3 : Int32) (hn : 85899345921 ≤ n) (j : J h0 h) : Ok (F_X11_year n h x1 x2 x3) (fun q => J h0 q.2 ∧ True) := by
  unfold F_X11_year
  refine Ok.bind (sf_X3_has (h0 := h0) n h 24 x1 (by omega) j fd_24) (fun q9 hq9 => ?_)
  obtain ⟨eq9, xq9⟩ := hq9
  rw [eq9]
  have f1 := rgT (q9.1)
  have f2 := lit_0
  refine Ok.eq (fun c3 => ?_) (fun c3 => ?_)
  · exact Ok.ret ⟨j, trivial⟩
  · have f4 := rgT (x2)
    refine Ok.bind (sf_X11_isSpan (h0 := h0) n h x2 (by omega) j ) (fun q12 hq12 => ?_)
    obtain ⟨eq12, xq12⟩ := hq12
    rw [eq12]
    have f5 := rgT (q12.1)
    refine Ok.eq (fun c6 => ?_) (fun c6 => ?_)
    · exact Ok.ret ⟨j, trivial⟩
    · have f7 := rgT (x3)
      have f8 := lit_1
      refine Ok.lt (fun c9 => ?_) (fun c9 => ?_)
      · exact Ok.ret ⟨j, trivial⟩
      · have f10 := lit_20
        refine Ok.le (fun c11 => ?_) (fun c11 => ?_)
        · exact sfW_X11_year_37 (h0 := h0) n h x1 x2 x3 0 0 j   (by omega) (by omega)
        · exact Ok.ret ⟨j, trivial⟩
set_option maxRecDepth 100000 in
set_option maxHeartbeats 4000000 in
theorem sfW_X0_goOn_2 {h0 : Hp} : ∀ (n : Nat), (∀ (h : Hp) (a : Nat) (b1 : Nat) (l2 : Int32) (l3 : Int32), J h0 h → IsBd a → Sc b1 → (51539607553 : Int) < n → (51539607553 : Int) + (l2.toInt - l3.toInt) < n → Ok (W_X0_goOn n 2 h a b1 l2 l3) (fun q => J h0 q ∧ True)) := by
  intro n
  induction n with
  | zero => intro h a b1 l2 l3 j hs ht1 hB hM; exfalso; omega
  | succ n ih =>
    intro h a b1 l2 l3 j hs ht1 hB hM
    rw [u_X0_goOn]
    refine Ok.pos rfl ?_
    have f1 := rgT (l2)
    have f2 := rgT (l3)
    refine Ok.le (fun c3 => ?_) (fun c3 => ?_)
    · exact Ok.ret ⟨j, trivial⟩
    · refine Ok.bind (sf_X0_walk (h0 := h0) n h a b1 (by omega) j hs ht1) (fun q2 hq2 => ?_)
      obtain ⟨jq2, xq2⟩ := hq2
      refine Ok.bind (sf_X0_spread (h0 := h0) n q2 a b1 (hi q2 a 4) (by omega) jq2 hs ht1) (fun q4 hq4 => ?_)
      obtain ⟨jq4, xq4⟩ := hq4
      have f4 := lit_1
      first | have f5 := adT (l3) (1) (by omega) (by omega) | have f5 := adT (l3) (1)
      have f6 := rgT (l3 + 1)
      exact ih q4 a b1 l2 (l3 + 1) jq4 hs ht1  (by omega) (by omega)
set_option maxRecDepth 100000 in
set_option maxHeartbeats 4000000 in
theorem sf_X0_goOn {h0 : Hp} (n : Nat) (h : Hp) (a : Nat) (b1 : Nat) (x2 : Int32) (hn : 68719476737 ≤ n) (j : J h0 h) (hs : IsBd a) (ht1 : Sc b1) : Ok (F_X0_goOn n h a b1 x2) (fun q => J h0 q ∧ True) := by
  unfold F_X0_goOn
  have f1 := rgT (x2)
  have f2 := lit_0
  exact sfW_X0_goOn_2 (h0 := h0) n h a b1 x2 0 j hs ht1  (by omega) (by omega)
set_option maxRecDepth 100000 in
set_option maxHeartbeats 4000000 in
theorem sf_X11_beats {h0 : Hp} (n : Nat) (h : Hp) (x1 : Int32) (hn : 68719476737 ≤ n) (j : J h0 h) : Ok (F_X11_beats n h x1) (fun q => J h0 q.2 ∧ True) := by
  unfold F_X11_beats
  have f1 := rgT (x1)
  refine Ok.bind (sf_X11_isSpan (h0 := h0) n h x1 (by omega) j ) (fun q1 hq1 => ?_)
  obtain ⟨eq1, xq1⟩ := hq1
  rw [eq1]
  have f2 := rgT (q1.1)
  have f3 := lit_0
  refine Ok.eq (fun c4 => ?_) (fun c4 => ?_)
  · exact Ok.ret ⟨j, trivial⟩
  · refine Ok.le (fun c5 => ?_) (fun c5 => ?_)
    · exact Ok.ret ⟨j, trivial⟩
    · refine Ok.bind (sf_X6_keep (h0 := h0) n h 30 (by omega) j sc_30) (fun q5 hq5 => ?_)
      obtain ⟨jq5, xq5⟩ := hq5
      refine Ok.bind (sf_X0_goOn (h0 := h0) n q5 23 30 x1 (by omega) jq5 bd_23 sc_30) (fun q7 hq7 => ?_)
      obtain ⟨jq7, xq7⟩ := hq7
      exact Ok.ret ⟨jq7, trivial⟩
set_option maxRecDepth 100000 in
set_option maxHeartbeats 4000000 in
theorem sf_X11_then {h0 : Hp} (n : Nat) (h : Hp) (x1 : Int32) (x2 : Int32) (x3 : Int32) (hn : 68719476737 ≤ n) (j : J h0 h) : Ok (F_X11_then n h x1 x2 x3) (fun q => J h0 q.2 ∧ True) := by
  unfold F_X11_then
  have f1 := rgT (x1)
  refine Ok.bind (sf_X0_hasGoer (h0 := h0) n h 23 x1 (by omega) j bd_23) (fun q1 hq1 => ?_)
  obtain ⟨eq1, xq1⟩ := hq1
  rw [eq1]
  have f2 := rgT (q1.1)
  have f3 := lit_0
  refine Ok.eq (fun c4 => ?_) (fun c4 => ?_)
  · exact Ok.ret ⟨j, trivial⟩
  · have f5 := rgT (x2)
    refine Ok.bind (sf_X11_isSpan (h0 := h0) n h x2 (by omega) j ) (fun q4 hq4 => ?_)
    obtain ⟨eq4, xq4⟩ := hq4
    rw [eq4]
    have f6 := rgT (q4.1)
    refine Ok.eq (fun c7 => ?_) (fun c7 => ?_)
    · exact Ok.ret ⟨j, trivial⟩
    · refine Ok.bind (sf_X11_isNoughtOrOne (h0 := h0) n h x3 (by omega) j ) (fun q7 hq7 => ?_)
      obtain ⟨eq7, xq7⟩ := hq7
      rw [eq7]
      have f8 := rgT (q7.1)
      refine Ok.eq (fun c9 => ?_) (fun c9 => ?_)
      · exact Ok.ret ⟨j, trivial⟩
      · refine Ok.bind (sf_X8_become (h0 := h0) n h 34 30 (by omega) j sc_34 sc_30) (fun q10 hq10 => ?_)
        obtain ⟨jq10, xq10⟩ := hq10
        refine Ok.bind (sf_X0_goOn (h0 := h0) n q10 23 34 x2 (by omega) jq10 bd_23 sc_34) (fun q12 hq12 => ?_)
        obtain ⟨jq12, xq12⟩ := hq12
        have f10 := rgT (x3)
        refine Ok.eq (fun c11 => ?_) (fun c11 => ?_)
        · refine Ok.chk (ixT (by omega) (by omega)) (fun c12 => ?_)
          exact Ok.ret ⟨jq12, trivial⟩
        · refine Ok.chk (ixT (by omega) (by omega)) (fun c13 => ?_)
          exact Ok.ret ⟨jq12, trivial⟩
