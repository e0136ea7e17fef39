/-! the class comes to its end, 2 -/
set_option maxRecDepth 100000 in
set_option maxHeartbeats 4000000 in
theorem ok_X11_silence {h0 : Hp} (n : Nat) (h : Hp) (x1 : Int32) (hn : 34359738369 ≤ n) (j : J h0 h) : Ok (F_X11_silence n h x1) (fun q => q.2 = h ∧ True) := by
  unfold F_X11_silence
  refine Ok.bind (ok_X11_isNoughtOrOne (h0 := h0) n h x1 (by omega) j ) (fun q8 hq8 => ?_)
  obtain ⟨eq8, xq8⟩ := hq8
  rw [eq8]
  have f1 := rgT (q8.1)
  have f2 := lit_0
  refine Ok.eq (fun c3 => ?_) (fun c3 => ?_)
  · exact Ok.ret ⟨rfl, trivial⟩
  · exact okW_X11_silence_20 (h0 := h0) n h x1 0 (-2) 0 0 j   (by omega) (by omega)
set_option maxRecDepth 100000 in
set_option maxHeartbeats 4000000 in
theorem okW_X11_stood_65 {h0 : Hp} : ∀ (n : Nat), (∀ (h : Hp) (l1 : Int32) (l2 : Int32) (l3 : Int32) (l4 : Int32) (l5 : Int32), J h0 h → 0 ≤ l1.toInt → l1.toInt < 5 → l3.toInt ≤ 100 → (51539607553 : Int) < n → (51539607553 : Int) + (l3.toInt - l5.toInt + 1) < n → Ok (W_X11_stood n 65 h l1 l2 l3 l4 l5) (fun q => J h0 q.2 ∧ True)) := by
  intro n
  induction n with
  | zero => intro h l1 l2 l3 l4 l5 j i0 i1 i2 hB hM; exfalso; omega
  | succ n ih =>
    intro h l1 l2 l3 l4 l5 j i0 i1 i2 hB hM
    rw [u_X11_stood]
    refine Ok.pos rfl ?_
    have f1 := rgT (l3)
    have f2 := rgT (l5)
    refine Ok.lt (fun c3 => ?_) (fun c3 => ?_)
    · exact Ok.ret ⟨j, trivial⟩
    · refine Ok.bind (ok_X0_walk (h0 := h0) n h 23 34 (by omega) j bd_23 sc_34) (fun q2 hq2 => ?_)
      obtain ⟨jq2, xq2⟩ := hq2
      have f4 := rgT (l1)
      refine Ok.chk (ixT (by omega) (by omega)) (fun c5 => ?_)
      have f6 := rgT (hi q2 36 (Int32.toNatClampNeg l1))
      have f7 := rgT (l2)
      refine Ok.eq (fun c8 => ?_) (fun c8 => ?_)
      · have f9 := lit_1
        have f10 := adT (l5) (1)
        have f11 := rgT (l5 + 1)
        exact ih q2 l1 l2 l3 (l4 + 1) (l5 + 1) jq2  (by omega) (by omega) (by omega) (by omega) (by omega)
      · have f12 := lit_1
        have f13 := adT (l5) (1)
        have f14 := rgT (l5 + 1)
        exact ih q2 l1 l2 l3 l4 (l5 + 1) jq2  (by omega) (by omega) (by omega) (by omega) (by omega)
set_option maxRecDepth 100000 in
set_option maxHeartbeats 4000000 in
theorem ok_X11_stood {h0 : Hp} (n : Nat) (h : Hp) (x1 : Int32) (x2 : Int32) (x3 : Int32) (hn : 68719476737 ≤ n) (j : J h0 h) : Ok (F_X11_stood n h x1 x2 x3) (fun q => J h0 q.2 ∧ True) := by
  unfold F_X11_stood
  refine Ok.bind (ok_X0_hasGoer (h0 := h0) n h 23 x1 (by omega) j bd_23) (fun q6 hq6 => ?_)
  obtain ⟨eq6, xq6⟩ := hq6
  rw [eq6]
  have f1 := rgT (q6.1)
  have f2 := lit_0
  refine Ok.eq (fun c3 => ?_) (fun c3 => ?_)
  · exact Ok.ret ⟨j, trivial⟩
  · refine Ok.bind (ok_X3_has (h0 := h0) n h 24 x2 (by omega) j fd_24) (fun q9 hq9 => ?_)
    obtain ⟨eq9, xq9⟩ := hq9
    rw [eq9]
    have f4 := rgT (q9.1)
    refine Ok.eq (fun c5 => ?_) (fun c5 => ?_)
    · exact Ok.ret ⟨j, trivial⟩
    · refine Ok.bind (ok_X11_isSpan (h0 := h0) n h x3 (by omega) j ) (fun q12 hq12 => ?_)
      obtain ⟨eq12, xq12⟩ := hq12
      rw [eq12]
      have f6 := rgT (q12.1)
      refine Ok.eq (fun c7 => ?_) (fun c7 => ?_)
      · exact Ok.ret ⟨j, trivial⟩
      · refine Ok.bind (ok_X8_become (h0 := h0) n h 34 30 (by omega) j sc_34 sc_30) (fun q15 hq15 => ?_)
        obtain ⟨jq15, xq15⟩ := hq15
        have f8 := rgT (x1)
        refine Ok.chk (ixT (by omega) (by omega)) (fun c9 => ?_)
        have f10 := rgT (hi q15 36 (Int32.toNatClampNeg x1))
        have f11 := rgT (x2)
        refine Ok.eq (fun c12 => ?_) (fun c12 => ?_)
        · have f13 := rgT (x3)
          have f14 := lit_1
          exact okW_X11_stood_65 (h0 := h0) n q15 x1 x2 x3 1 1 jq15  (by omega) (by omega) (by omega) (by omega) (by omega)
        · have f15 := rgT (x3)
          have f16 := lit_1
          exact okW_X11_stood_65 (h0 := h0) n q15 x1 x2 x3 0 1 jq15  (by omega) (by omega) (by omega) (by omega) (by omega)
set_option maxRecDepth 100000 in
set_option maxHeartbeats 4000000 in
theorem ok_X3_quietOnTheRight {h0 : Hp} (n : Nat) (h : Hp) (a : Nat) (x1 : Int32) (hn : 1 ≤ n) (j : J h0 h) (hs : IsFd a) : Ok (F_X3_quietOnTheRight n h a x1) (fun q => q.2 = h ∧ True) := by
  unfold F_X3_quietOnTheRight
  exact Ok.ret ⟨rfl, trivial⟩
set_option maxRecDepth 100000 in
set_option maxHeartbeats 4000000 in
theorem ok_X0_canSpread {h0 : Hp} (n : Nat) (h : Hp) (a : Nat) (b1 : Nat) (hn : 1 ≤ n) (j : J h0 h) (hs : IsBd a) (ht1 : Sc b1) : Ok (F_X0_canSpread n h a b1) (fun q => q.2 = h ∧ True) := by
  unfold F_X0_canSpread
  have f1 := rgT (hi h a 3)
  have f2 := lit_0
  refine Ok.le (fun c3 => ?_) (fun c3 => ?_)
  · exact Ok.ret ⟨rfl, trivial⟩
  · refine Ok.bind (ok_X3_quietOnTheRight (h0 := h0) n h (a + 1) (hi h b1 3) (by omega) j hs.2.1) (fun q2 hq2 => ?_)
    obtain ⟨eq2, xq2⟩ := hq2
    rw [eq2]
    have f4 := rgT (q2.1)
    refine Ok.eq (fun c5 => ?_) (fun c5 => ?_)
    · exact Ok.ret ⟨rfl, trivial⟩
    · refine Ok.bind (ok_J6_bitCount_0f7a4 (h0 := h0) n h (hi h b1 3) (by omega) j ) (fun q5 hq5 => ?_)
      obtain ⟨eq5, xq5⟩ := hq5
      rw [eq5]
      have f6 := lit_8
      have f7 := rgT (q5.1)
      refine Ok.le (fun c8 => ?_) (fun c8 => ?_)
      · exact Ok.ret ⟨rfl, trivial⟩
      · exact Ok.ret ⟨rfl, trivial⟩
set_option maxRecDepth 100000 in
set_option maxHeartbeats 4000000 in
theorem ok_X0_stirred {h0 : Hp} (n : Nat) (h : Hp) (x1 : Int32) (x2 : Int32) (hn : 1 ≤ n) (j : J h0 h) : Ok (F_X0_stirred n h x1 x2) (fun q => q.2 = h ∧ True) := by
  unfold F_X0_stirred
  exact Ok.ret ⟨rfl, trivial⟩
set_option maxRecDepth 100000 in
set_option maxHeartbeats 4000000 in
theorem ok_X0_lot {h0 : Hp} (n : Nat) (h : Hp) (x1 : Int32) (x2 : Int32) (x3 : Int32) (hn : 1 ≤ n) (j : J h0 h) : Ok (F_X0_lot n h x1 x2 x3) (fun q => q.2 = h ∧ True) := by
  unfold F_X0_lot
  refine Ok.bind (ok_X0_stirred (h0 := h0) n h x2 197 (by omega) j ) (fun q1 hq1 => ?_)
  obtain ⟨eq1, xq1⟩ := hq1
  rw [eq1]
  refine Ok.bind (ok_X0_stirred (h0 := h0) n h q1.1 x3 (by omega) j ) (fun q3 hq3 => ?_)
  obtain ⟨eq3, xq3⟩ := hq3
  rw [eq3]
  have f1 := rgT (x1)
  have f2 := lit_0
  refine Ok.le (fun c3 => ?_) (fun c3 => ?_)
  · exact Ok.ret ⟨rfl, trivial⟩
  · refine Ok.div (by omega) ?_
    exact Ok.ret ⟨rfl, trivial⟩
set_option maxRecDepth 100000 in
set_option maxHeartbeats 4000000 in
theorem ok_X0_isWet {h0 : Hp} (n : Nat) (h : Hp) (a : Nat) (x1 : Int32) (x2 : Int32) (x3 : Int32) (hn : 1 ≤ n) (j : J h0 h) (hs : IsBd a) : Ok (F_X0_isWet n h a x1 x2 x3) (fun q => q.2 = h ∧ True) := by
  unfold F_X0_isWet
  refine Ok.bind (ok_X0_lot (h0 := h0) n h 100 x3 ((32 * x1) + x2) (by omega) j ) (fun q1 hq1 => ?_)
  obtain ⟨eq1, xq1⟩ := hq1
  rw [eq1]
  have f1 := rgT (hi h a 3)
  have f2 := rgT (q1.1)
  refine Ok.le (fun c3 => ?_) (fun c3 => ?_)
  · exact Ok.ret ⟨rfl, trivial⟩
  · exact Ok.ret ⟨rfl, trivial⟩
set_option maxRecDepth 100000 in
set_option maxHeartbeats 4000000 in
theorem ok_X8_soundIn {h0 : Hp} (n : Nat) (h : Hp) (a : Nat) (x1 : Int32) (x2 : Int32) (x3 : Int32) (hn : 1 ≤ n) (j : J h0 h) (hs : Sc a) : Ok (F_X8_soundIn n h a x1 x2 x3) (fun q => J h0 q ∧ True) := by
  unfold F_X8_soundIn
  have f1 := rgT (x1)
  have f2 := lit_0
  refine Ok.lt (fun c3 => ?_) (fun c3 => ?_)
  · exact Ok.ret ⟨j, trivial⟩
  · have f4 := lit_25
    refine Ok.le (fun c5 => ?_) (fun c5 => ?_)
    · exact Ok.ret ⟨j, trivial⟩
    · refine Ok.chk (ixT (by omega) (by omega)) (fun c6 => ?_)
      generalize eg7 : wrI h (a + 1) (Int32.toNatClampNeg x1) (((8 * x2) + x3) : Int32).toInt8.toInt32 = g7
      have jg7 : J h0 g7 := JwI eg7 j (ncO_nc (scO hs).2.1)
      generalize eg8 : wrI g7 a 3 (((hi g7 a 3) : Int32) ||| (((1 : Int32) <<< ((x1 : Int32) &&& 31)) : Int32)) = g8
      have jg8 : J h0 g8 := JwI eg8 jg7 (ncO_nc (scO hs).1)
      exact Ok.ret ⟨jg8, trivial⟩
set_option maxRecDepth 100000 in
set_option maxHeartbeats 4000000 in
theorem ok_X8_soundFromTheLeft {h0 : Hp} (n : Nat) (h : Hp) (a : Nat) (x1 : Int32) (hn : 1 ≤ n) (j : J h0 h) (hs : Sc a) : Ok (F_X8_soundFromTheLeft n h a x1) (fun q => J h0 q ∧ True) := by
  unfold F_X8_soundFromTheLeft
  refine Ok.bind (ok_X8_beatOf (h0 := h0) n h a (x1 - 1) (by omega) j hs) (fun q1 hq1 => ?_)
  obtain ⟨eq1, xq1⟩ := hq1
  rw [eq1]
  have f1 := rgT (q1.1)
  have f2 := lit_0
  refine Ok.le (fun c3 => ?_) (fun c3 => ?_)
  · exact Ok.ret ⟨j, trivial⟩
  · refine Ok.bind (ok_X8_offsetOf (h0 := h0) n h a (x1 - 1) (by omega) j hs) (fun q4 hq4 => ?_)
    obtain ⟨eq4, xq4⟩ := hq4
    rw [eq4]
    refine Ok.div (by omega) ?_
    refine Ok.bind (ok_X8_soundIn (h0 := h0) n h a x1 q1.1 ((q4.1 + 1) - (q4.1 + 1) / q1.1 * q1.1) (by omega) j hs) (fun q7 hq7 => ?_)
    obtain ⟨jq7, xq7⟩ := hq7
    exact Ok.ret ⟨jq7, trivial⟩
set_option maxRecDepth 100000 in
set_option maxHeartbeats 4000000 in
theorem okW_X0_spread_112 {h0 : Hp} : ∀ (n : Nat), (∀ (h : Hp) (a : Nat) (b1 : Nat) (l2 : Int32) (l3 : Int32) (l4 : Int32) (l5 : Int32) (l6 : Int32), J h0 h → IsBd a → Sc b1 → (17179869185 : Int) < n → (17179869185 : Int) + (25 - l6.toInt) < n → Ok (W_X0_spread n 112 h a b1 l2 l3 l4 l5 l6) (fun q => J h0 q ∧ True)) := by
  intro n
  induction n with
  | zero => intro h a b1 l2 l3 l4 l5 l6 j hs ht1 hB hM; exfalso; omega
  | succ n ih =>
    intro h a b1 l2 l3 l4 l5 l6 j hs ht1 hB hM
    rw [u_X0_spread]
    refine Ok.neg (by decide) ?_
    refine Ok.pos rfl ?_
    have f1 := lit_25
    have f2 := rgT (l6)
    refine Ok.le (fun c3 => ?_) (fun c3 => ?_)
    · exact Ok.ret ⟨j, trivial⟩
    · have f4 := rgT (l4)
      have f5 := lit_0
      refine Ok.eq (fun c6 => ?_) (fun c6 => ?_)
      · exact Ok.ret ⟨j, trivial⟩
      · refine Ok.bind (ok_X11_lowest (h0 := h0) n h l4 (by omega) j ) (fun q14 hq14 => ?_)
        obtain ⟨eq14, xq14⟩ := hq14
        rw [eq14]
        refine Ok.bind (ok_X8_soundFromTheLeft (h0 := h0) n h b1 q14.1 (by omega) j ht1) (fun q16 hq16 => ?_)
        obtain ⟨jq16, xq16⟩ := hq16
        have f7 := lit_1
        have f8 := adT (l6) (1)
        have f9 := rgT (l6 + 1)
        exact ih q16 a b1 l2 l3 ((l4 : Int32) &&& ((l4 - 1) : Int32)) l5 (l6 + 1) jq16 hs ht1  (by omega) (by omega)
set_option maxRecDepth 100000 in
set_option maxHeartbeats 4000000 in
theorem okW_X0_spread_30 {h0 : Hp} : ∀ (n : Nat), (∀ (h : Hp) (a : Nat) (b1 : Nat) (l2 : Int32) (l3 : Int32) (l4 : Int32) (l5 : Int32) (l6 : Int32), J h0 h → IsBd a → Sc b1 → (34359738369 : Int) < n → (34359738369 : Int) + (25 - l6.toInt) < n → Ok (W_X0_spread n 30 h a b1 l2 l3 l4 l5 l6) (fun q => J h0 q ∧ True)) := by
  intro n
  induction n with
  | zero => intro h a b1 l2 l3 l4 l5 l6 j hs ht1 hB hM; exfalso; omega
  | succ n ih =>
    intro h a b1 l2 l3 l4 l5 l6 j hs ht1 hB hM
    rw [u_X0_spread]
    refine Ok.pos rfl ?_
    have f1 := lit_25
    have f2 := rgT (l6)
    refine Ok.le (fun c3 => ?_) (fun c3 => ?_)
    · have f4 := lit_0
      exact okW_X0_spread_112 (h0 := h0) n h a b1 l2 l3 l4 l5 0 j hs ht1  (by omega) (by omega)
    · have f5 := rgT (l5)
      have f6 := lit_0
      refine Ok.eq (fun c7 => ?_) (fun c7 => ?_)
      · exact okW_X0_spread_112 (h0 := h0) n h a b1 l2 l3 l4 l5 0 j hs ht1  (by omega) (by omega)
      · have f8 := rgT (l3)
        refine Ok.le (fun c9 => ?_) (fun c9 => ?_)
        · exact okW_X0_spread_112 (h0 := h0) n h a b1 l2 l3 l4 l5 0 j hs ht1  (by omega) (by omega)
        · refine Ok.bind (ok_X11_lowest (h0 := h0) n h l5 (by omega) j ) (fun q4 hq4 => ?_)
          obtain ⟨eq4, xq4⟩ := hq4
          rw [eq4]
          refine Ok.bind (ok_X0_isWet (h0 := h0) n h a (hi h b1 0) q4.1 l2 (by omega) j hs) (fun q6 hq6 => ?_)
          obtain ⟨eq6, xq6⟩ := hq6
          rw [eq6]
          have f10 := rgT (q6.1)
          refine Ok.eq (fun c11 => ?_) (fun c11 => ?_)
          · have f12 := lit_1
            have f13 := adT (l6) (1)
            have f14 := rgT (l6 + 1)
            exact ih h a b1 l2 l3 l4 ((l5 : Int32) &&& ((l5 - 1) : Int32)) (l6 + 1) j hs ht1  (by omega) (by omega)
          · refine Ok.bind (ok_X0_ask (h0 := h0) n h a b1 2 q4.1 0 0 (by omega) j hs ht1) (fun q9 hq9 => ?_)
            obtain ⟨jq9, xq9⟩ := hq9
            have f15 := rgT (q9.1)
            refine Ok.le (fun c16 => ?_) (fun c16 => ?_)
            · have f17 := lit_1
              have f18 := adT (l6) (1)
              have f19 := rgT (l6 + 1)
              exact ih q9.2 a b1 l2 l3 l4 ((l5 : Int32) &&& ((l5 - 1) : Int32)) (l6 + 1) jq9 hs ht1  (by omega) (by omega)
            · have f20 := lit_1
              have f21 := adT (l6) (1)
              have f22 := rgT (l6 + 1)
              exact ih q9.2 a b1 l2 (l3 + (-1)) ((l4 : Int32) ||| (((1 : Int32) <<< (((q4.1 + 1) : Int32) &&& 31)) : Int32)) ((l5 : Int32) &&& ((l5 - 1) : Int32)) (l6 + 1) jq9 hs ht1  (by omega) (by omega)
set_option maxRecDepth 100000 in
set_option maxHeartbeats 4000000 in
theorem ok_X0_spread {h0 : Hp} (n : Nat) (h : Hp) (a : Nat) (b1 : Nat) (x2 : Int32) (hn : 51539607553 ≤ n) (j : J h0 h) (hs : IsBd a) (ht1 : Sc b1) : Ok (F_X0_spread n h a b1 x2) (fun q => J h0 q ∧ True) := by
  unfold F_X0_spread
  refine Ok.bind (ok_J6_bitCount_0f7a4 (h0 := h0) n h (hi h b1 3) (by omega) j ) (fun q18 hq18 => ?_)
  obtain ⟨eq18, xq18⟩ := hq18
  rw [eq18]
  refine Ok.bind (ok_X3_quietOnTheRight (h0 := h0) n h (a + 1) (hi h b1 3) (by omega) j hs.2.1) (fun q20 hq20 => ?_)
  obtain ⟨eq20, xq20⟩ := hq20
  rw [eq20]
  have f1 := lit_0
  exact okW_X0_spread_30 (h0 := h0) n h a b1 x2 (8 - q18.1) 0 q20.1 0 j hs ht1  (by omega) (by omega)
set_option maxRecDepth 100000 in
set_option maxHeartbeats 4000000 in
theorem okW_X0_soak_3 {h0 : Hp} : ∀ (n : Nat), (∀ (h : Hp) (a : Nat) (b1 : Nat) (l2 : Int32) (l3 : Int32) (l4 : Int32), J h0 h → IsBd a → Sc b1 → (51539607553 : Int) < n → (51539607553 : Int) + (l2.toInt - l4.toInt) < n → Ok (W_X0_soak n 3 h a b1 l2 l3 l4) (fun q => J h0 q ∧ True)) := by
  intro n
  induction n with
  | zero => intro h a b1 l2 l3 l4 j hs ht1 hB hM; exfalso; omega
  | succ n ih =>
    intro h a b1 l2 l3 l4 j hs ht1 hB hM
    rw [u_X0_soak]
    refine Ok.pos rfl ?_
    have f1 := rgT (l2)
    have f2 := rgT (l4)
    refine Ok.le (fun c3 => ?_) (fun c3 => ?_)
    · exact Ok.ret ⟨j, trivial⟩
    · refine Ok.bind (ok_X0_canSpread (h0 := h0) n h a b1 (by omega) j hs ht1) (fun q2 hq2 => ?_)
      obtain ⟨eq2, xq2⟩ := hq2
      rw [eq2]
      have f4 := rgT (q2.1)
      have f5 := lit_0
      refine Ok.eq (fun c6 => ?_) (fun c6 => ?_)
      · exact Ok.ret ⟨j, trivial⟩
      · generalize eg7 : wrI h b1 0 ((hi h b1 0) + 1) = g7
        have jg7 : J h0 g7 := JwI eg7 j (ncO_nc (scO ht1).1)
        refine Ok.bind (ok_X0_spread (h0 := h0) n g7 a b1 l3 (by omega) jg7 hs ht1) (fun q5 hq5 => ?_)
        obtain ⟨jq5, xq5⟩ := hq5
        have f8 := lit_1
        have f9 := adT (l4) (1)
        have f10 := rgT (l4 + 1)
        exact ih q5 a b1 l2 l3 (l4 + 1) jq5 hs ht1  (by omega) (by omega)
set_option maxRecDepth 100000 in
set_option maxHeartbeats 4000000 in
theorem ok_X0_soak {h0 : Hp} (n : Nat) (h : Hp) (a : Nat) (b1 : Nat) (x2 : Int32) (x3 : Int32) (hn : 68719476737 ≤ n) (j : J h0 h) (hs : IsBd a) (ht1 : Sc b1) : Ok (F_X0_soak n h a b1 x2 x3) (fun q => J h0 q ∧ True) := by
  unfold F_X0_soak
  have f1 := rgT (x2)
  have f2 := lit_0
  exact okW_X0_soak_3 (h0 := h0) n h a b1 x2 x3 0 j hs ht1  (by omega) (by omega)
set_option maxRecDepth 100000 in
set_option maxHeartbeats 4000000 in
theorem ok_X11_tunesIn {h0 : Hp} (n : Nat) (h : Hp) (x1 : Int32) (hn : 68719476737 ≤ n) (j : J h0 h) : Ok (F_X11_tunesIn n h x1) (fun q => J h0 q.2 ∧ True) := by
  unfold F_X11_tunesIn
  refine Ok.bind (ok_X11_isSpan (h0 := h0) n h x1 (by omega) j ) (fun q1 hq1 => ?_)
  obtain ⟨eq1, xq1⟩ := hq1
  rw [eq1]
  have f1 := rgT (q1.1)
  have f2 := lit_0
  refine Ok.eq (fun c3 => ?_) (fun c3 => ?_)
  · exact Ok.ret ⟨j, trivial⟩
  · refine Ok.bind (ok_X8_become (h0 := h0) n h 34 30 (by omega) j sc_34 sc_30) (fun q4 hq4 => ?_)
    obtain ⟨jq4, xq4⟩ := hq4
    refine Ok.bind (ok_X0_soak (h0 := h0) n q4 23 34 x1 (hi q4 23 4) (by omega) jq4 bd_23 sc_34) (fun q6 hq6 => ?_)
    obtain ⟨jq6, xq6⟩ := hq6
    exact Ok.ret ⟨jq6, trivial⟩
set_option maxRecDepth 100000 in
set_option maxHeartbeats 4000000 in
theorem okW_X11_year_37 {h0 : Hp} : ∀ (n : Nat), (∀ (h : Hp) (l1 : Int32) (l2 : Int32) (l3 : Int32) (l4 : Int32) (l5 : Int32), J h0 h → (68719476737 : Int) < n → (68719476737 : Int) + (l3.toInt - l5.toInt) < n → Ok (W_X11_year n 37 h l1 l2 l3 l4 l5) (fun q => J h0 q.2 ∧ True)) := by
  intro n
  induction n with
  | zero => intro h l1 l2 l3 l4 l5 j hB hM; exfalso; omega
  | succ n ih =>
    intro h l1 l2 l3 l4 l5 j hB hM
    rw [u_X11_year]
    refine Ok.pos rfl ?_
    have f1 := rgT (l3)
    have f2 := rgT (l5)
    refine Ok.le (fun c3 => ?_) (fun c3 => ?_)
    · exact Ok.ret ⟨j, trivial⟩
    · refine Ok.bind (ok_X8_become (h0 := h0) n h 34 30 (by omega) j sc_34 sc_30) (fun q2 hq2 => ?_)
      obtain ⟨jq2, xq2⟩ := hq2
      refine Ok.bind (ok_X0_soak (h0 := h0) n q2 23 34 l2 ((hi q2 23 4) + l5) (by omega) jq2 bd_23 sc_34) (fun q4 hq4 => ?_)
      obtain ⟨jq4, xq4⟩ := hq4
      refine Ok.bind (ok_X8_isTuned (h0 := h0) n q4 34 l1 (by omega) jq4 sc_34) (fun q6 hq6 => ?_)
      obtain ⟨eq6, xq6⟩ := hq6
      rw [eq6]
      have f4 := rgT (q6.1)
      have f5 := lit_0
      refine Ok.eq (fun c6 => ?_) (fun c6 => ?_)
      · have f7 := lit_1
        have f8 := adT (l5) (1)
        have f9 := rgT (l5 + 1)
        exact ih q4 l1 l2 l3 l4 (l5 + 1) jq4   (by omega) (by omega)
      · have f10 := lit_1
        have f11 := adT (l5) (1)
        have f12 := rgT (l5 + 1)
        exact ih q4 l1 l2 l3 (l4 + 1) (l5 + 1) jq4   (by omega) (by omega)
set_option maxRecDepth 100000 in
set_option maxHeartbeats 4000000 in
theorem ok_X11_year {h0 : Hp} (n : Nat) (h : Hp) (x1 : Int32) (x2 : Int32) (x3 : Int32) (hn : 85899345921 ≤ n) (j : J h0 h) : Ok (F_X11_year n h x1 x2 x3) (fun q => J h0 q.2 ∧ True) := by
  unfold F_X11_year
  refine Ok.bind (ok_X3_has (h0 := h0) n h 24 x1 (by omega) j fd_24) (fun q9 hq9 => ?_)
  obtain ⟨eq9, xq9⟩ := hq9
  rw [eq9]
  have f1 := rgT (q9.1)
  have f2 := lit_0
  refine Ok.eq (fun c3 => ?_) (fun c3 => ?_)
  · exact Ok.ret ⟨j, trivial⟩
  · refine Ok.bind (ok_X11_isSpan (h0 := h0) n h x2 (by omega) j ) (fun q12 hq12 => ?_)
    obtain ⟨eq12, xq12⟩ := hq12
    rw [eq12]
    have f4 := rgT (q12.1)
    refine Ok.eq (fun c5 => ?_) (fun c5 => ?_)
    · exact Ok.ret ⟨j, trivial⟩
    · have f6 := rgT (x3)
      have f7 := lit_1
      refine Ok.lt (fun c8 => ?_) (fun c8 => ?_)
      · exact Ok.ret ⟨j, trivial⟩
      · have f9 := lit_20
        refine Ok.le (fun c10 => ?_) (fun c10 => ?_)
        · exact okW_X11_year_37 (h0 := h0) n h x1 x2 x3 0 0 j   (by omega) (by omega)
        · exact Ok.ret ⟨j, trivial⟩
set_option maxRecDepth 100000 in
set_option maxHeartbeats 4000000 in
theorem okW_X0_goOn_2 {h0 : Hp} : ∀ (n : Nat), (∀ (h : Hp) (a : Nat) (b1 : Nat) (l2 : Int32) (l3 : Int32), J h0 h → IsBd a → Sc b1 → (51539607553 : Int) < n → (51539607553 : Int) + (l2.toInt - l3.toInt) < n → Ok (W_X0_goOn n 2 h a b1 l2 l3) (fun q => J h0 q ∧ True)) := by
  intro n
  induction n with
  | zero => intro h a b1 l2 l3 j hs ht1 hB hM; exfalso; omega
  | succ n ih =>
    intro h a b1 l2 l3 j hs ht1 hB hM
    rw [u_X0_goOn]
    refine Ok.pos rfl ?_
    have f1 := rgT (l2)
    have f2 := rgT (l3)
    refine Ok.le (fun c3 => ?_) (fun c3 => ?_)
    · exact Ok.ret ⟨j, trivial⟩
    · refine Ok.bind (ok_X0_walk (h0 := h0) n h a b1 (by omega) j hs ht1) (fun q2 hq2 => ?_)
      obtain ⟨jq2, xq2⟩ := hq2
      refine Ok.bind (ok_X0_spread (h0 := h0) n q2 a b1 (hi q2 a 4) (by omega) jq2 hs ht1) (fun q4 hq4 => ?_)
      obtain ⟨jq4, xq4⟩ := hq4
      have f4 := lit_1
      have f5 := adT (l3) (1)
      have f6 := rgT (l3 + 1)
      exact ih q4 a b1 l2 (l3 + 1) jq4 hs ht1  (by omega) (by omega)
set_option maxRecDepth 100000 in
set_option maxHeartbeats 4000000 in
theorem ok_X0_goOn {h0 : Hp} (n : Nat) (h : Hp) (a : Nat) (b1 : Nat) (x2 : Int32) (hn : 68719476737 ≤ n) (j : J h0 h) (hs : IsBd a) (ht1 : Sc b1) : Ok (F_X0_goOn n h a b1 x2) (fun q => J h0 q ∧ True) := by
  unfold F_X0_goOn
  have f1 := rgT (x2)
  have f2 := lit_0
  exact okW_X0_goOn_2 (h0 := h0) n h a b1 x2 0 j hs ht1  (by omega) (by omega)
set_option maxRecDepth 100000 in
set_option maxHeartbeats 4000000 in
theorem ok_X11_beats {h0 : Hp} (n : Nat) (h : Hp) (x1 : Int32) (hn : 68719476737 ≤ n) (j : J h0 h) : Ok (F_X11_beats n h x1) (fun q => J h0 q.2 ∧ True) := by
  unfold F_X11_beats
  refine Ok.bind (ok_X11_isSpan (h0 := h0) n h x1 (by omega) j ) (fun q1 hq1 => ?_)
  obtain ⟨eq1, xq1⟩ := hq1
  rw [eq1]
  have f1 := rgT (q1.1)
  have f2 := lit_0
  refine Ok.eq (fun c3 => ?_) (fun c3 => ?_)
  · exact Ok.ret ⟨j, trivial⟩
  · have f4 := rgT (x1)
    refine Ok.le (fun c5 => ?_) (fun c5 => ?_)
    · exact Ok.ret ⟨j, trivial⟩
    · refine Ok.bind (ok_X6_keep (h0 := h0) n h 30 (by omega) j sc_30) (fun q5 hq5 => ?_)
      obtain ⟨jq5, xq5⟩ := hq5
      refine Ok.bind (ok_X0_goOn (h0 := h0) n q5 23 30 x1 (by omega) jq5 bd_23 sc_30) (fun q7 hq7 => ?_)
      obtain ⟨jq7, xq7⟩ := hq7
      exact Ok.ret ⟨jq7, trivial⟩
set_option maxRecDepth 100000 in
set_option maxHeartbeats 4000000 in
theorem ok_X11_then {h0 : Hp} (n : Nat) (h : Hp) (x1 : Int32) (x2 : Int32) (x3 : Int32) (hn : 68719476737 ≤ n) (j : J h0 h) : Ok (F_X11_then n h x1 x2 x3) (fun q => J h0 q.2 ∧ True) := by
  unfold F_X11_then
  refine Ok.bind (ok_X0_hasGoer (h0 := h0) n h 23 x1 (by omega) j bd_23) (fun q1 hq1 => ?_)
  obtain ⟨eq1, xq1⟩ := hq1
  rw [eq1]
  have f1 := rgT (q1.1)
  have f2 := lit_0
  refine Ok.eq (fun c3 => ?_) (fun c3 => ?_)
  · exact Ok.ret ⟨j, trivial⟩
  · refine Ok.bind (ok_X11_isSpan (h0 := h0) n h x2 (by omega) j ) (fun q4 hq4 => ?_)
    obtain ⟨eq4, xq4⟩ := hq4
    rw [eq4]
    have f4 := rgT (q4.1)
    refine Ok.eq (fun c5 => ?_) (fun c5 => ?_)
    · exact Ok.ret ⟨j, trivial⟩
    · refine Ok.bind (ok_X11_isNoughtOrOne (h0 := h0) n h x3 (by omega) j ) (fun q7 hq7 => ?_)
      obtain ⟨eq7, xq7⟩ := hq7
      rw [eq7]
      have f6 := rgT (q7.1)
      refine Ok.eq (fun c7 => ?_) (fun c7 => ?_)
      · exact Ok.ret ⟨j, trivial⟩
      · refine Ok.bind (ok_X8_become (h0 := h0) n h 34 30 (by omega) j sc_34 sc_30) (fun q10 hq10 => ?_)
        obtain ⟨jq10, xq10⟩ := hq10
        refine Ok.bind (ok_X0_goOn (h0 := h0) n q10 23 34 x2 (by omega) jq10 bd_23 sc_34) (fun q12 hq12 => ?_)
        obtain ⟨jq12, xq12⟩ := hq12
        have f8 := rgT (x3)
        refine Ok.eq (fun c9 => ?_) (fun c9 => ?_)
        · have f10 := rgT (x1)
          refine Ok.chk (ixT (by omega) (by omega)) (fun c11 => ?_)
          exact Ok.ret ⟨jq12, trivial⟩
        · have f12 := rgT (x1)
          refine Ok.chk (ixT (by omega) (by omega)) (fun c13 => ?_)
          exact Ok.ret ⟨jq12, trivial⟩
set_option maxRecDepth 100000 in
set_option maxHeartbeats 4000000 in
theorem okW_J7_fill_60_5 {h0 : Hp} : ∀ (n : Nat), (∀ (h : Hp) (b1 : Nat) (l1 : Int32) (l2 : Int32) (l3 : Int32), J h0 h → ncO b1 = true → 0 ≤ l2.toInt → l3.toInt = 60 → (1 : Int) < n → (1 : Int) + (60 - l2.toInt) < n → Ok (W_J7_fill_60 n 5 h b1 l1 l2 l3) (fun q => J h0 q ∧ True)) := by
  intro n
  induction n with
  | zero => intro h b1 l1 l2 l3 j p0 i0 i1 hB hM; exfalso; omega
  | succ n ih =>
    intro h b1 l1 l2 l3 j p0 i0 i1 hB hM
    rw [u_J7_fill_60]
    refine Ok.pos rfl ?_
    have f1 := rgT (l3)
    have f2 := rgT (l2)
    refine Ok.le (fun c3 => ?_) (fun c3 => ?_)
    · exact Ok.ret ⟨j, trivial⟩
    · refine Ok.chk (ixT (by omega) (by omega)) (fun c4 => ?_)
      generalize eg5 : wrI h b1 (Int32.toNatClampNeg l2) l1 = g5
      have jg5 : J h0 g5 := JwI eg5 j (ncO_nc p0)
      have f6 := lit_1
      have f7 := adT (l2) (1)
      have f8 := rgT (l2 + 1)
      exact ih g5 b1 l1 (l2 + 1) l3 jg5 p0 (by omega) (by omega) (by omega) (by omega)
set_option maxRecDepth 100000 in
set_option maxHeartbeats 4000000 in
theorem ok_J7_fill_60 {h0 : Hp} (n : Nat) (h : Hp) (b1 : Nat) (x2 : Int32) (hn : 17179869185 ≤ n) (j : J h0 h) (p0 : ncO b1 = true) : Ok (F_J7_fill_60 n h b1 x2) (fun q => J h0 q ∧ True) := by
  unfold F_J7_fill_60
  have f1 := lit_0
  have f2 := lit_60
  exact okW_J7_fill_60_5 (h0 := h0) n h b1 x2 0 60 j p0 (by omega) (by omega) (by omega) (by omega)
set_option maxRecDepth 100000 in
set_option maxHeartbeats 4000000 in
theorem okG_X10_look_41 {h0 : Hp} : ∀ (n : Nat), (∀ (h : Hp) (b1 : Nat) (l2 : Int32) (l3 : Int32) (l4 : Int32) (l5 : Int32) (l6 : Int32), J h0 h → Sc b1 → (1 : Int) < n → (1 : Int) + (200 * (25 - l2.toInt)) < n → Ok (W_X10_look n 41 h b1 l2 l3 l4 l5 l6) (fun q => J h0 q ∧ True)) ∧ (∀ (h : Hp) (b1 : Nat) (l2 : Int32) (l3 : Int32) (l4 : Int32) (l5 : Int32) (l6 : Int32), J h0 h → Sc b1 → 0 ≤ l6.toInt → l6.toInt ≤ 100 → l2.toInt < 25 → l5.toInt ≤ 15 → (1 : Int) < n → (1 : Int) + (200 * (25 - l2.toInt) - 40 - l6.toInt) < n → Ok (W_X10_look n 73 h b1 l2 l3 l4 l5 l6) (fun q => J h0 q ∧ True)) := by
  intro n
  induction n with
  | zero => exact ⟨by intro h b1 l2 l3 l4 l5 l6 j ht1 hB hM; exfalso; omega, by intro h b1 l2 l3 l4 l5 l6 j ht1 i0 i1 i2 i3 hB hM; exfalso; omega⟩
  | succ n ih =>
    refine ⟨?_, ?_⟩
    · intro h b1 l2 l3 l4 l5 l6 j ht1 hB hM
      rw [u_X10_look]
      refine Ok.pos rfl ?_
      have f1 := lit_25
      have f2 := rgT (l2)
      refine Ok.le (fun c3 => ?_) (fun c3 => ?_)
      · exact Ok.ret ⟨j, trivial⟩
      · have f4 := rgT (l3)
        have f5 := lit_0
        refine Ok.eq (fun c6 => ?_) (fun c6 => ?_)
        · exact Ok.ret ⟨j, trivial⟩
        · refine Ok.bind (ok_X11_lowest (h0 := h0) n h l3 (by omega) j ) (fun q3 hq3 => ?_)
          obtain ⟨eq3, xq3⟩ := hq3
          rw [eq3]
          refine Ok.bind (ok_X8_beatOf (h0 := h0) n h b1 q3.1 (by omega) j ht1) (fun q5 hq5 => ?_)
          obtain ⟨eq5, xq5⟩ := hq5
          rw [eq5]
          refine Ok.bind (ok_X8_offsetOf (h0 := h0) n h b1 q3.1 (by omega) j ht1) (fun q7 hq7 => ?_)
          obtain ⟨eq7, xq7⟩ := hq7
          rw [eq7]
          have f7 := rgT (q5.1)
          have f8 := rgT (q7.1)
          exact ih.2 h b1 l2 l3 q3.1 q5.1 q7.1 j ht1 (by omega) (by omega) (by omega) (by omega) (by omega) (by omega)
    · intro h b1 l2 l3 l4 l5 l6 j ht1 i0 i1 i2 i3 hB hM
      rw [u_X10_look]
      refine Ok.neg (by decide) ?_
      refine Ok.pos rfl ?_
      have f1 := lit_60
      have f2 := rgT (l6)
      refine Ok.le (fun c3 => ?_) (fun c3 => ?_)
      · have f4 := rgT (l2)
        have f5 := lit_1
        have f6 := adT (l2) (1)
        have f7 := rgT (l2 + 1)
        exact ih.1 h b1 (l2 + 1) ((l3 : Int32) &&& ((l3 - 1) : Int32)) 0 0 0 j ht1  (by omega) (by omega)
      · have f8 := rgT (l5)
        have f9 := lit_0
        refine Ok.le (fun c10 => ?_) (fun c10 => ?_)
        · have f11 := rgT (l2)
          have f12 := lit_1
          have f13 := adT (l2) (1)
          have f14 := rgT (l2 + 1)
          exact ih.1 h b1 (l2 + 1) ((l3 : Int32) &&& ((l3 - 1) : Int32)) 0 0 0 j ht1  (by omega) (by omega)
        · refine Ok.chk (ixT (by omega) (by omega)) (fun c15 => ?_)
          refine Ok.pos c15 ?_
          generalize eg16 : wrI h 205 (Int32.toNatClampNeg l6) (((hi h 205 (Int32.toNatClampNeg l6)) : Int32) ||| (((1 : Int32) <<< ((l4 : Int32) &&& 31)) : Int32)) = g16
          have jg16 : J h0 g16 := JwI eg16 j (ncO_nc (by decide))
          have f17 := rgT (l2)
          have f18 := adT (l6) (l5)
          have f19 := rgT (l6 + l5)
          exact ih.2 g16 b1 l2 l3 l4 l5 (l6 + l5) jg16 ht1 (by omega) (by omega) (by omega) (by omega) (by omega) (by omega)
theorem okW_X10_look_41 {h0 : Hp} (n : Nat) : ∀ (h : Hp) (b1 : Nat) (l2 : Int32) (l3 : Int32) (l4 : Int32) (l5 : Int32) (l6 : Int32), J h0 h → Sc b1 → (1 : Int) < n → (1 : Int) + (200 * (25 - l2.toInt)) < n → Ok (W_X10_look n 41 h b1 l2 l3 l4 l5 l6) (fun q => J h0 q ∧ True) := (okG_X10_look_41 (h0 := h0) n).1
theorem okW_X10_look_73 {h0 : Hp} (n : Nat) : ∀ (h : Hp) (b1 : Nat) (l2 : Int32) (l3 : Int32) (l4 : Int32) (l5 : Int32) (l6 : Int32), J h0 h → Sc b1 → 0 ≤ l6.toInt → l6.toInt ≤ 100 → l2.toInt < 25 → l5.toInt ≤ 15 → (1 : Int) < n → (1 : Int) + (200 * (25 - l2.toInt) - 40 - l6.toInt) < n → Ok (W_X10_look n 73 h b1 l2 l3 l4 l5 l6) (fun q => J h0 q ∧ True) := (okG_X10_look_41 (h0 := h0) n).2
set_option maxRecDepth 100000 in
set_option maxHeartbeats 4000000 in
theorem ok_X10_look {h0 : Hp} (n : Nat) (h : Hp) (b1 : Nat) (hn : 34359738369 ≤ n) (j : J h0 h) (ht1 : Sc b1) : Ok (F_X10_look n h b1) (fun q => J h0 q ∧ True) := by
  unfold F_X10_look
  generalize eg1 : wrI h 204 3 (((hi h 24 2) : Int32) &&& ((((hi h b1 2) : Int32) ^^^ ((-1) : Int32)) : Int32)) = g1
  have jg1 : J h0 g1 := JwI eg1 j (by decide)
  generalize eg2 : wrI g1 204 4 (hi g1 b1 0) = g2
  have jg2 : J h0 g2 := JwI eg2 jg1 (by decide)
  have f3 := lit_0
  refine Ok.bind (ok_J7_fill_60 (h0 := h0) n g2 205 0 (by omega) jg2 (by decide)) (fun q13 hq13 => ?_)
  obtain ⟨jq13, xq13⟩ := hq13
  exact okW_X10_look_41 (h0 := h0) n q13 b1 0 (hi q13 b1 3) 0 0 0 jq13 ht1  (by omega) (by omega)
theorem ok_J9_floorMod_7cf53 {h0 : Hp} (n : Nat) (h : Hp) (x1 x2 : Int32) (hn : 1 ≤ n) (j : J h0 h) (p0 : x2.toInt = 60) : Ok (F_J9_floorMod_7cf53 n h x1 x2) (fun q => q.2 = h ∧ (0 ≤ q.1.toInt ∧ q.1.toInt < 60)) := by
  have e60 : x2 = 60 := Int32.toInt_inj.mp (by rw [p0]; decide)
  subst e60
  have hx := rgT x1
  have hd : (x1 / 60).toInt = x1.toInt.tdiv 60 := Int32.toInt_div_of_ne_right _ _ (by decide)
  have ht1 := Int.tmod_add_mul_tdiv x1.toInt 60
  have ht2 : -60 < x1.toInt.tmod 60 := Int.neg_lt_tmod_of_pos _ (by decide)
  have ht3 : x1.toInt.tmod 60 < 60 := Int.tmod_lt_of_pos _ (by decide)
  have hm : (x1 / 60 * 60).toInt = 60 * x1.toInt.tdiv 60 := by
    rw [Int32.toInt_mul, hd, show (60 : Int32).toInt = 60 by decide, bmT (by omega) (by omega)]; omega
  have hr : (x1 - x1 / 60 * 60).toInt = x1.toInt.tmod 60 := by
    rw [Int32.toInt_sub, hm, bmT (by omega) (by omega)]; omega
  have hs : 0 ≤ x1.toInt → 0 ≤ x1.toInt.tmod 60 := fun q => Int.tmod_nonneg _ q
  have hz : (x1 ^^^ 60).toInt < 0 ↔ x1.toInt < 0 := by
    have hb : (x1.toBitVec ^^^ (60 : Int32).toBitVec).msb = x1.toBitVec.msb := by
      rw [BitVec.msb_xor, show (60 : Int32).toBitVec.msb = false by decide, Bool.xor_false]
    rw [BitVec.msb_eq_toInt, BitVec.msb_eq_toInt] at hb
    exact decide_eq_decide.mp hb
  unfold F_J9_floorMod_7cf53
  refine Ok.div (by decide) ?_
  have e0 : (0 : Int32).toInt = 0 := by decide
  have e6 : (60 : Int32).toInt = 60 := by decide
  refine Ok.le (fun c1 => ?_) (fun c1 => ?_)
  · refine Ok.ret ⟨rfl, ?_⟩
    show 0 ≤ (x1 - x1 / 60 * 60).toInt ∧ (x1 - x1 / 60 * 60).toInt < 60
    omega
  · refine Ok.eq (fun c2 => ?_) (fun c2 => ?_)
    · refine Ok.ret ⟨rfl, ?_⟩
      show 0 ≤ (x1 - x1 / 60 * 60).toInt ∧ (x1 - x1 / 60 * 60).toInt < 60
      omega
    · refine Ok.ret ⟨rfl, ?_⟩
      show 0 ≤ (x1 - x1 / 60 * 60 + 60).toInt ∧ (x1 - x1 / 60 * 60 + 60).toInt < 60
      have f := adT (x1 - x1 / 60 * 60) 60
      have hneg : x1.toInt.tmod 60 ≤ 0 := by
        have : x1.toInt ≤ 0 := by omega
        have h5 := Int.tmod_nonneg 60 (show 0 ≤ -x1.toInt by omega)
        rw [Int.neg_tmod] at h5
        omega
      omega
set_option maxRecDepth 100000 in
set_option maxHeartbeats 4000000 in
theorem ok_X10_quietAt {h0 : Hp} (n : Nat) (h : Hp) (x1 : Int32) (x2 : Int32) (hn : 1 ≤ n) (j : J h0 h) : Ok (F_X10_quietAt n h x1 x2) (fun q => q.2 = h ∧ True) := by
  unfold F_X10_quietAt
  have f1 := rgT (x1)
  have f2 := lit_60
  refine Ok.bind (ok_J9_floorMod_7cf53 (h0 := h0) n h x1 60 (by omega) j (by omega)) (fun q1 hq1 => ?_)
  obtain ⟨eq1, xq1⟩ := hq1
  rw [eq1]
  have f3 := rgT (q1.1)
  refine Ok.chk (ixT (by omega) (by omega)) (fun c4 => ?_)
  exact Ok.ret ⟨rfl, trivial⟩
set_option maxRecDepth 100000 in
set_option maxHeartbeats 4000000 in
theorem ok_X10_onwards {h0 : Hp} (n : Nat) (h : Hp) (x1 : Int32) (x2 : Int32) (x3 : Int32) (hn : 1 ≤ n) (j : J h0 h) : Ok (F_X10_onwards n h x1 x2 x3) (fun q => q.2 = h ∧ True) := by
  unfold F_X10_onwards
  refine Ok.bind (ok_X3_grown (h0 := h0) n h 24 x1 (by omega) j fd_24) (fun q1 hq1 => ?_)
  obtain ⟨eq1, xq1⟩ := hq1
  rw [eq1]
  refine Ok.bind (ok_X10_quietAt (h0 := h0) n h x2 x3 (by omega) j ) (fun q3 hq3 => ?_)
  obtain ⟨eq3, xq3⟩ := hq3
  rw [eq3]
  exact Ok.ret ⟨rfl, trivial⟩
set_option maxRecDepth 100000 in
set_option maxHeartbeats 4000000 in
theorem okW_X10_findMeeting_12 {h0 : Hp} : ∀ (n : Nat), (∀ (h : Hp) (l1 : Int32) (l2 : Int32) (l3 : Int32) (l4 : Int32) (l5 : Int32), J h0 h → (1 : Int) < n → (1 : Int) + (101 - l5.toInt) < n → Ok (W_X10_findMeeting n 12 h l1 l2 l3 l4 l5) (fun q => J h0 q.2 ∧ True)) := by
  intro n
  induction n with
  | zero => intro h l1 l2 l3 l4 l5 j hB hM; exfalso; omega
  | succ n ih =>
    intro h l1 l2 l3 l4 l5 j hB hM
    rw [u_X10_findMeeting]
    refine Ok.pos rfl ?_
    have f1 := lit_100
    have f2 := rgT (l5)
    refine Ok.lt (fun c3 => ?_) (fun c3 => ?_)
    · exact Ok.ret ⟨j, trivial⟩
    · have f4 := rgT ((l3 : Int32) &&& (l4 : Int32))
      have f5 := lit_0
      refine Ok.eq (fun c6 => ?_) (fun c6 => ?_)
      · refine Ok.bind (ok_X10_onwards (h0 := h0) n h l3 (((hi h 204 4) + l5) + 1) 0 (by omega) j ) (fun q3 hq3 => ?_)
        obtain ⟨eq3, xq3⟩ := hq3
        rw [eq3]
        refine Ok.bind (ok_X10_onwards (h0 := h0) n h l4 (((hi h 204 4) + l5) + 1) 0 (by omega) j ) (fun q5 hq5 => ?_)
        obtain ⟨eq5, xq5⟩ := hq5
        rw [eq5]
        have f7 := lit_1
        have f8 := adT (l5) (1)
        have f9 := rgT (l5 + 1)
        exact ih h l1 l2 q3.1 q5.1 (l5 + 1) j   (by omega) (by omega)
      · generalize eg10 : wrI h 204 5 l5 = g10
        have jg10 : J h0 g10 := JwI eg10 j (by decide)
        refine Ok.bind (ok_X11_lowest (h0 := h0) n g10 ((l3 : Int32) &&& (l4 : Int32)) (by omega) jg10 ) (fun q7 hq7 => ?_)
        obtain ⟨eq7, xq7⟩ := hq7
        rw [eq7]
        generalize eg11 : wrI g10 204 6 q7.1 = g11
        have jg11 : J h0 g11 := JwI eg11 jg10 (by decide)
        exact Ok.ret ⟨jg11, trivial⟩
set_option maxRecDepth 100000 in
set_option maxHeartbeats 4000000 in
theorem ok_X10_findMeeting {h0 : Hp} (n : Nat) (h : Hp) (x1 : Int32) (x2 : Int32) (hn : 17179869185 ≤ n) (j : J h0 h) : Ok (F_X10_findMeeting n h x1 x2) (fun q => J h0 q.2 ∧ True) := by
  unfold F_X10_findMeeting
  have f1 := lit_0
  exact okW_X10_findMeeting_12 (h0 := h0) n h x1 x2 ((1 : Int32) <<< ((x1 : Int32) &&& 31)) ((1 : Int32) <<< ((x2 : Int32) &&& 31)) 0 j   (by omega) (by omega)
set_option maxRecDepth 100000 in
set_option maxHeartbeats 4000000 in
theorem ok_X11_meet {h0 : Hp} (n : Nat) (h : Hp) (x1 : Int32) (x2 : Int32) (x3 : Int32) (hn : 34359738369 ≤ n) (j : J h0 h) : Ok (F_X11_meet n h x1 x2 x3) (fun q => J h0 q.2 ∧ True) := by
  unfold F_X11_meet
  refine Ok.bind (ok_X0_hasGoer (h0 := h0) n h 23 x1 (by omega) j bd_23) (fun q1 hq1 => ?_)
  obtain ⟨eq1, xq1⟩ := hq1
  rw [eq1]
  have f1 := rgT (q1.1)
  have f2 := lit_0
  refine Ok.eq (fun c3 => ?_) (fun c3 => ?_)
  · exact Ok.ret ⟨j, trivial⟩
  · refine Ok.bind (ok_X0_hasGoer (h0 := h0) n h 23 x2 (by omega) j bd_23) (fun q4 hq4 => ?_)
    obtain ⟨eq4, xq4⟩ := hq4
    rw [eq4]
    have f4 := rgT (q4.1)
    refine Ok.eq (fun c5 => ?_) (fun c5 => ?_)
    · exact Ok.ret ⟨j, trivial⟩
    · refine Ok.bind (ok_X11_isNoughtOrOne (h0 := h0) n h x3 (by omega) j ) (fun q7 hq7 => ?_)
      obtain ⟨eq7, xq7⟩ := hq7
      rw [eq7]
      have f6 := rgT (q7.1)
      refine Ok.eq (fun c7 => ?_) (fun c7 => ?_)
      · exact Ok.ret ⟨j, trivial⟩
      · refine Ok.bind (ok_X10_look (h0 := h0) n h 30 (by omega) j sc_30) (fun q10 hq10 => ?_)
        obtain ⟨jq10, xq10⟩ := hq10
        have f8 := rgT (x1)
        refine Ok.chk (ixT (by omega) (by omega)) (fun c9 => ?_)
        have f10 := rgT (x2)
        refine Ok.chk (ixT (by omega) (by omega)) (fun c11 => ?_)
        refine Ok.bind (ok_X10_findMeeting (h0 := h0) n q10 (hi q10 32 (Int32.toNatClampNeg x1)) (hi q10 32 (Int32.toNatClampNeg x2)) (by omega) jq10 ) (fun q14 hq14 => ?_)
        obtain ⟨jq14, xq14⟩ := hq14
        have f12 := rgT (q14.1)
        refine Ok.eq (fun c13 => ?_) (fun c13 => ?_)
        · exact Ok.ret ⟨jq14, trivial⟩
        · have f14 := rgT (x3)
          refine Ok.eq (fun c15 => ?_) (fun c15 => ?_)
          · exact Ok.ret ⟨jq14, trivial⟩
          · exact Ok.ret ⟨jq14, trivial⟩
set_option maxRecDepth 100000 in
set_option maxHeartbeats 4000000 in
theorem okW_X10_fewest_8 {h0 : Hp} : ∀ (n : Nat), (∀ (h : Hp) (l1 : Int32) (l2 : Int32) (l3 : Int32) (l4 : Int32) (l5 : Int32) (l6 : Int32) (l7 : Int32), J h0 h → l5.toInt ≤ 100 → (1 : Int) < n → (1 : Int) + (101 - l7.toInt) < n → Ok (W_X10_fewest n 8 h l1 l2 l3 l4 l5 l6 l7) (fun q => q.2 = h ∧ q.1.toInt ≤ 100)) := by
  intro n
  induction n with
  | zero => intro h l1 l2 l3 l4 l5 l6 l7 j i0 hB hM; exfalso; omega
  | succ n ih =>
    intro h l1 l2 l3 l4 l5 l6 l7 j i0 hB hM
    rw [u_X10_fewest]
    refine Ok.pos rfl ?_
    have f1 := rgT (l5)
    have f2 := rgT (l7)
    refine Ok.lt (fun c3 => ?_) (fun c3 => ?_)
    · have f4 := lit_m1
      refine Ok.ret ⟨rfl, ?_⟩
      show ((-1) : Int32).toInt ≤ 100
      omega
    · have f5 := rgT (l6)
      have f6 := lit_0
      refine Ok.eq (fun c7 => ?_) (fun c7 => ?_)
      · have f8 := lit_m1
        refine Ok.ret ⟨rfl, ?_⟩
        show ((-1) : Int32).toInt ≤ 100
        omega
      · have f9 := and_rg ((((l6 : Int32).toUInt32 >>> ((l2 : Int32).toUInt32 &&& Int32.toUInt32 31)).toInt32) : Int32) (1 : Int32) 1 lit_1 (by decide)
        refine Ok.eq (fun c10 => ?_) (fun c10 => ?_)
        · refine Ok.bind (ok_X10_onwards (h0 := h0) n h l6 ((l3 + l7) + 1) l4 (by omega) j ) (fun q4 hq4 => ?_)
          obtain ⟨eq4, xq4⟩ := hq4
          rw [eq4]
          have f11 := lit_1
          have f12 := adT (l7) (1)
          have f13 := rgT (l7 + 1)
          exact ih h l1 l2 l3 l4 l5 q4.1 (l7 + 1) j  (by omega) (by omega) (by omega)
        · refine Ok.ret ⟨rfl, ?_⟩
          show ((l7) : Int32).toInt ≤ 100
          omega
set_option maxRecDepth 100000 in
set_option maxHeartbeats 4000000 in
theorem ok_X10_fewest {h0 : Hp} (n : Nat) (h : Hp) (x1 : Int32) (x2 : Int32) (x3 : Int32) (x4 : Int32) (x5 : Int32) (hn : 17179869185 ≤ n) (j : J h0 h) (p0 : x5.toInt ≤ 100) : Ok (F_X10_fewest n h x1 x2 x3 x4 x5) (fun q => q.2 = h ∧ q.1.toInt ≤ 100) := by
  unfold F_X10_fewest
  have f1 := rgT (x5)
  have f2 := lit_0
  exact okW_X10_fewest_8 (h0 := h0) n h x1 x2 x3 x4 x5 ((1 : Int32) <<< ((x1 : Int32) &&& 31)) 0 j  (by omega) (by omega) (by omega)
set_option maxRecDepth 100000 in
set_option maxHeartbeats 4000000 in
theorem okW_X10_lookBack_12 {h0 : Hp} : ∀ (n : Nat), (∀ (h : Hp) (l1 : Int32) (l2 : Int32) (l3 : Int32) (l4 : Int32), J h0 h → l4.toInt ≤ 100 → (1 : Int) < n → (1 : Int) + (l4.toInt + 1) < n → Ok (W_X10_lookBack n 12 h l1 l2 l3 l4) (fun q => J h0 q ∧ True)) := by
  intro n
  induction n with
  | zero => intro h l1 l2 l3 l4 j i0 hB hM; exfalso; omega
  | succ n ih =>
    intro h l1 l2 l3 l4 j i0 hB hM
    rw [u_X10_lookBack]
    refine Ok.pos rfl ?_
    have f1 := rgT (l4)
    have f2 := lit_0
    refine Ok.lt (fun c3 => ?_) (fun c3 => ?_)
    · exact Ok.ret ⟨j, trivial⟩
    · refine Ok.chk (ixT (by omega) (by omega)) (fun c4 => ?_)
      generalize eg5 : wrI h 206 (Int32.toNatClampNeg l4) l3 = g5
      have jg5 : J h0 g5 := JwI eg5 j (ncO_nc (by decide))
      refine Ok.bind (ok_X10_quietAt (h0 := h0) n g5 ((hi g5 204 4) + l4) 0 (by omega) jg5 ) (fun q3 hq3 => ?_)
      obtain ⟨eq3, xq3⟩ := hq3
      rw [eq3]
      refine Ok.bind (ok_X3_grown (h0 := h0) n g5 24 ((l3 : Int32) &&& (q3.1 : Int32)) (by omega) jg5 fd_24) (fun q5 hq5 => ?_)
      obtain ⟨eq5, xq5⟩ := hq5
      rw [eq5]
      have f6 := lit_m1
      have f7 := adT (l4) (-1)
      have f8 := rgT (l4 + (-1))
      exact ih g5 l1 l2 q5.1 (l4 + (-1)) jg5  (by omega) (by omega) (by omega)
set_option maxRecDepth 100000 in
set_option maxHeartbeats 4000000 in
theorem ok_X10_lookBack {h0 : Hp} (n : Nat) (h : Hp) (x1 : Int32) (x2 : Int32) (hn : 17179869185 ≤ n) (j : J h0 h) : Ok (F_X10_lookBack n h x1 x2) (fun q => J h0 q ∧ True) := by
  unfold F_X10_lookBack
  have f1 := rgT (if 100 < x2 then 100 else x2)
  exact okW_X10_lookBack_12 (h0 := h0) n h x1 x2 ((1 : Int32) <<< ((x1 : Int32) &&& 31)) (if 100 < x2 then 100 else x2) j  (by omega) (by omega) (by omega)
set_option maxRecDepth 100000 in
set_option maxHeartbeats 4000000 in
theorem okW_X10_cellOnWay_12 {h0 : Hp} : ∀ (n : Nat), (∀ (h : Hp) (l1 : Int32) (l2 : Int32) (l3 : Int32) (l4 : Int32) (l5 : Int32) (l6 : Int32), J h0 h → 0 ≤ l6.toInt → (1 : Int) < n → (1 : Int) + (101 - l6.toInt) < n → Ok (W_X10_cellOnWay n 12 h l1 l2 l3 l4 l5 l6) (fun q => q.2 = h ∧ True)) := by
  intro n
  induction n with
  | zero => intro h l1 l2 l3 l4 l5 l6 j i0 hB hM; exfalso; omega
  | succ n ih =>
    intro h l1 l2 l3 l4 l5 l6 j i0 hB hM
    rw [u_X10_cellOnWay]
    refine Ok.pos rfl ?_
    have f1 := rgT (l4)
    have f2 := rgT (l6)
    refine Ok.lt (fun c3 => ?_) (fun c3 => ?_)
    · exact Ok.ret ⟨rfl, trivial⟩
    · have f4 := rgT (l3)
      refine Ok.lt (fun c5 => ?_) (fun c5 => ?_)
      · exact Ok.ret ⟨rfl, trivial⟩
      · have f6 := lit_100
        refine Ok.lt (fun c7 => ?_) (fun c7 => ?_)
        · exact Ok.ret ⟨rfl, trivial⟩
        · refine Ok.bind (ok_X10_onwards (h0 := h0) n h ((1 : Int32) <<< ((l5 : Int32) &&& 31)) ((hi h 204 4) + l6) 0 (by omega) j ) (fun q4 hq4 => ?_)
          obtain ⟨eq4, xq4⟩ := hq4
          rw [eq4]
          refine Ok.chk (ixT (by omega) (by omega)) (fun c8 => ?_)
          refine Ok.bind (ok_X11_lowest (h0 := h0) n h ((q4.1 : Int32) &&& ((hi h 206 (Int32.toNatClampNeg l6)) : Int32)) (by omega) j ) (fun q7 hq7 => ?_)
          obtain ⟨eq7, xq7⟩ := hq7
          rw [eq7]
          have f9 := lit_1
          have f10 := adT (l6) (1)
          have f11 := rgT (l6 + 1)
          exact ih h l1 l2 l3 l4 q7.1 (l6 + 1) j  (by omega) (by omega) (by omega)
set_option maxRecDepth 100000 in
set_option maxHeartbeats 4000000 in
theorem ok_X10_cellOnWay {h0 : Hp} (n : Nat) (h : Hp) (x1 : Int32) (x2 : Int32) (x3 : Int32) (x4 : Int32) (hn : 17179869185 ≤ n) (j : J h0 h) : Ok (F_X10_cellOnWay n h x1 x2 x3 x4) (fun q => J h0 q.2 ∧ True) := by
  unfold F_X10_cellOnWay
  refine Ok.bind (ok_X10_lookBack (h0 := h0) n h x2 x3 (by omega) j ) (fun q9 hq9 => ?_)
  obtain ⟨jq9, xq9⟩ := hq9
  have f1 := lit_1
  exact okW_X10_cellOnWay_12 (h0 := h0) n q9 x1 x2 x3 x4 x1 1 jq9  (by omega) (by omega) (by omega)
set_option maxRecDepth 100000 in
set_option maxHeartbeats 4000000 in
theorem ok_X11_way {h0 : Hp} (n : Nat) (h : Hp) (x1 : Int32) (x2 : Int32) (x3 : Int32) (hn : 34359738369 ≤ n) (j : J h0 h) : Ok (F_X11_way n h x1 x2 x3) (fun q => J h0 q.2 ∧ True) := by
  unfold F_X11_way
  refine Ok.bind (ok_X11_isFree (h0 := h0) n h x1 (by omega) j ) (fun q1 hq1 => ?_)
  obtain ⟨eq1, xq1⟩ := hq1
  rw [eq1]
  have f1 := rgT (q1.1)
  have f2 := lit_0
  refine Ok.eq (fun c3 => ?_) (fun c3 => ?_)
  · exact Ok.ret ⟨j, trivial⟩
  · refine Ok.bind (ok_X11_isFree (h0 := h0) n h x2 (by omega) j ) (fun q4 hq4 => ?_)
    obtain ⟨eq4, xq4⟩ := hq4
    rw [eq4]
    have f4 := rgT (q4.1)
    refine Ok.eq (fun c5 => ?_) (fun c5 => ?_)
    · exact Ok.ret ⟨j, trivial⟩
    · refine Ok.bind (ok_X10_look (h0 := h0) n h 30 (by omega) j sc_30) (fun q7 hq7 => ?_)
      obtain ⟨jq7, xq7⟩ := hq7
      have f6 := rgT (x1)
      have f7 := rgT (x2)
      have f8 := rgT (hi q7 30 0)
      have f9 := lit_100
      refine Ok.bind (ok_X10_fewest (h0 := h0) n q7 x1 x2 (hi q7 30 0) 0 100 (by omega) jq7 (by omega)) (fun q9 hq9 => ?_)
      obtain ⟨eq9, xq9⟩ := hq9
      rw [eq9]
      have f10 := rgT (q9.1)
      have f11 := lit_m1
      refine Ok.eq (fun c12 => ?_) (fun c12 => ?_)
      · exact Ok.ret ⟨jq7, trivial⟩
      · have f13 := rgT (x3)
        refine Ok.eq (fun c14 => ?_) (fun c14 => ?_)
        · exact Ok.ret ⟨jq7, trivial⟩
        · refine Ok.lt (fun c15 => ?_) (fun c15 => ?_)
          · exact Ok.ret ⟨jq7, trivial⟩
          · refine Ok.le (fun c16 => ?_) (fun c16 => ?_)
            · refine Ok.bind (ok_X10_cellOnWay (h0 := h0) n q7 x1 x2 q9.1 x3 (by omega) jq7 ) (fun q15 hq15 => ?_)
              obtain ⟨jq15, xq15⟩ := hq15
              exact Ok.ret ⟨jq15, trivial⟩
            · exact Ok.ret ⟨jq7, trivial⟩
set_option maxRecDepth 100000 in
set_option maxHeartbeats 4000000 in
theorem okW_X10_bestWait_9 {h0 : Hp} : ∀ (n : Nat), (∀ (h : Hp) (l1 : Int32) (l2 : Int32) (l3 : Int32) (l4 : Int32) (l5 : Int32), J h0 h → l4.toInt ≤ 100 → (17179869185 : Int) < n → (17179869185 : Int) + (60 - l5.toInt) < n → Ok (W_X10_bestWait n 9 h l1 l2 l3 l4 l5) (fun q => q.2 = h ∧ True)) := by
  intro n
  induction n with
  | zero => intro h l1 l2 l3 l4 l5 j i0 hB hM; exfalso; omega
  | succ n ih =>
    intro h l1 l2 l3 l4 l5 j i0 hB hM
    rw [u_X10_bestWait]
    refine Ok.pos rfl ?_
    have f1 := lit_60
    have f2 := rgT (l5)
    refine Ok.le (fun c3 => ?_) (fun c3 => ?_)
    · exact Ok.ret ⟨rfl, trivial⟩
    · have f4 := rgT (l1)
      have f5 := rgT (l2)
      have f6 := rgT (hi h 204 4)
      have f7 := adT (hi h 204 4) (l5)
      have f8 := rgT ((hi h 204 4) + l5)
      have f9 := lit_0
      have f10 := rgT (l4)
      refine Ok.bind (ok_X10_fewest (h0 := h0) n h l1 l2 ((hi h 204 4) + l5) 0 l4 (by omega) j (by omega)) (fun q2 hq2 => ?_)
      obtain ⟨eq2, xq2⟩ := hq2
      rw [eq2]
      have f11 := rgT (q2.1)
      have f12 := lit_m1
      refine Ok.eq (fun c13 => ?_) (fun c13 => ?_)
      · have f14 := lit_1
        have f15 := adT (l5) (1)
        have f16 := rgT (l5 + 1)
        exact ih h l1 l2 l3 l4 (l5 + 1) j  (by omega) (by omega) (by omega)
      · have f17 := lit_1
        have f18 := sbT (q2.1) (1)
        have f19 := rgT (q2.1 - 1)
        have f20 := adT (l5) (1)
        have f21 := rgT (l5 + 1)
        exact ih h l1 l2 l5 (q2.1 - 1) (l5 + 1) j  (by omega) (by omega) (by omega)
set_option maxRecDepth 100000 in
set_option maxHeartbeats 4000000 in
theorem ok_X10_bestWait {h0 : Hp} (n : Nat) (h : Hp) (x1 : Int32) (x2 : Int32) (hn : 34359738369 ≤ n) (j : J h0 h) : Ok (F_X10_bestWait n h x1 x2) (fun q => q.2 = h ∧ True) := by
  unfold F_X10_bestWait
  have f1 := lit_100
  have f2 := lit_0
  exact okW_X10_bestWait_9 (h0 := h0) n h x1 x2 (-1) 100 0 j  (by omega) (by omega) (by omega)
set_option maxRecDepth 100000 in
set_option maxHeartbeats 4000000 in
theorem ok_X11_leave {h0 : Hp} (n : Nat) (h : Hp) (x1 : Int32) (x2 : Int32) (x3 : Int32) (hn : 34359738369 ≤ n) (j : J h0 h) : Ok (F_X11_leave n h x1 x2 x3) (fun q => J h0 q.2 ∧ True) := by
  unfold F_X11_leave
  refine Ok.bind (ok_X11_isFree (h0 := h0) n h x1 (by omega) j ) (fun q1 hq1 => ?_)
  obtain ⟨eq1, xq1⟩ := hq1
  rw [eq1]
  have f1 := rgT (q1.1)
  have f2 := lit_0
  refine Ok.eq (fun c3 => ?_) (fun c3 => ?_)
  · exact Ok.ret ⟨j, trivial⟩
  · refine Ok.bind (ok_X11_isFree (h0 := h0) n h x2 (by omega) j ) (fun q4 hq4 => ?_)
    obtain ⟨eq4, xq4⟩ := hq4
    rw [eq4]
    have f4 := rgT (q4.1)
    refine Ok.eq (fun c5 => ?_) (fun c5 => ?_)
    · exact Ok.ret ⟨j, trivial⟩
    · refine Ok.bind (ok_X11_isNoughtOrOne (h0 := h0) n h x3 (by omega) j ) (fun q7 hq7 => ?_)
      obtain ⟨eq7, xq7⟩ := hq7
      rw [eq7]
      have f6 := rgT (q7.1)
      refine Ok.eq (fun c7 => ?_) (fun c7 => ?_)
      · exact Ok.ret ⟨j, trivial⟩
      · refine Ok.bind (ok_X10_look (h0 := h0) n h 30 (by omega) j sc_30) (fun q10 hq10 => ?_)
        obtain ⟨jq10, xq10⟩ := hq10
        refine Ok.bind (ok_X10_bestWait (h0 := h0) n q10 x1 x2 (by omega) jq10 ) (fun q12 hq12 => ?_)
        obtain ⟨eq12, xq12⟩ := hq12
        rw [eq12]
        have f8 := rgT (q12.1)
        have f9 := lit_m1
        refine Ok.eq (fun c10 => ?_) (fun c10 => ?_)
        · exact Ok.ret ⟨jq10, trivial⟩
        · have f11 := rgT (x3)
          refine Ok.eq (fun c12 => ?_) (fun c12 => ?_)
          · exact Ok.ret ⟨jq10, trivial⟩
          · have f13 := rgT (x1)
            have f14 := rgT (x2)
            have f15 := rgT (hi q10 30 0)
            have f16 := adT (hi q10 30 0) (q12.1)
            have f17 := rgT ((hi q10 30 0) + q12.1)
            have f18 := lit_100
            refine Ok.bind (ok_X10_fewest (h0 := h0) n q10 x1 x2 ((hi q10 30 0) + q12.1) 0 100 (by omega) jq10 (by omega)) (fun q16 hq16 => ?_)
            obtain ⟨eq16, xq16⟩ := hq16
            rw [eq16]
            exact Ok.ret ⟨jq10, trivial⟩
set_option maxRecDepth 100000 in
set_option maxHeartbeats 4000000 in
theorem okW_X10_mownBy_6 {h0 : Hp} : ∀ (n : Nat), (∀ (h : Hp) (l1 : Int32) (l2 : Int32) (l3 : Int32) (l4 : Int32) (l5 : Int32) (l6 : Int32) (l7 : Int32), J h0 h → l4.toInt ≤ 100 → (17179869185 : Int) < n → (17179869185 : Int) + (256 - l7.toInt) < n → Ok (W_X10_mownBy n 6 h l1 l2 l3 l4 l5 l6 l7) (fun q => q.2 = h ∧ True)) := by
  intro n
  induction n with
  | zero => intro h l1 l2 l3 l4 l5 l6 l7 j i0 hB hM; exfalso; omega
  | succ n ih =>
    intro h l1 l2 l3 l4 l5 l6 l7 j i0 hB hM
    rw [u_X10_mownBy]
    refine Ok.pos rfl ?_
    have f1 := lit_256
    have f2 := rgT (l7)
    refine Ok.le (fun c3 => ?_) (fun c3 => ?_)
    · exact Ok.ret ⟨rfl, trivial⟩
    · have f4 := rgT (l6)
      have f5 := rgT (l5)
      refine Ok.eq (fun c6 => ?_) (fun c6 => ?_)
      · exact Ok.ret ⟨rfl, trivial⟩
      · refine Ok.bind (ok_J6_bitCount_0f7a4 (h0 := h0) n h l6 (by omega) j ) (fun q3 hq3 => ?_)
        obtain ⟨eq3, xq3⟩ := hq3
        rw [eq3]
        have f7 := rgT (q3.1)
        have f8 := rgT (l1)
        refine Ok.eq (fun c9 => ?_) (fun c9 => ?_)
        · have f10 := rgT (l2)
          have f11 := rgT (l3)
          have f12 := rgT (hi h 204 4)
          have f13 := rgT (l4)
          refine Ok.bind (ok_X10_fewest (h0 := h0) n h l2 l3 (hi h 204 4) l6 l4 (by omega) j (by omega)) (fun q6 hq6 => ?_)
          obtain ⟨eq6, xq6⟩ := hq6
          rw [eq6]
          have f14 := rgT (q6.1)
          have f15 := lit_m1
          refine Ok.eq (fun c16 => ?_) (fun c16 => ?_)
          · have f17 := lit_1
            have f18 := adT (l7) (1)
            have f19 := rgT (l7 + 1)
            exact ih h l1 l2 l3 l4 l5 (((l6 - l5) : Int32) &&& (l5 : Int32)) (l7 + 1) j  (by omega) (by omega) (by omega)
          · exact Ok.ret ⟨rfl, trivial⟩
        · have f20 := rgT (l4)
          have f21 := lit_1
          have f22 := adT (l7) (1)
          have f23 := rgT (l7 + 1)
          exact ih h l1 l2 l3 l4 l5 (((l6 - l5) : Int32) &&& (l5 : Int32)) (l7 + 1) j  (by omega) (by omega) (by omega)
set_option maxRecDepth 100000 in
set_option maxHeartbeats 4000000 in
theorem ok_X10_mownBy {h0 : Hp} (n : Nat) (h : Hp) (x1 : Int32) (x2 : Int32) (x3 : Int32) (x4 : Int32) (x5 : Int32) (hn : 34359738369 ≤ n) (j : J h0 h) (p0 : x4.toInt ≤ 100) : Ok (F_X10_mownBy n h x1 x2 x3 x4 x5) (fun q => q.2 = h ∧ True) := by
  unfold F_X10_mownBy
  have f1 := rgT (x4)
  have f2 := lit_0
  exact okW_X10_mownBy_6 (h0 := h0) n h x1 x2 x3 x4 x5 0 0 j  (by omega) (by omega) (by omega)
set_option maxRecDepth 100000 in
set_option maxHeartbeats 4000000 in
theorem okW_X10_fewestMown_22 {h0 : Hp} : ∀ (n : Nat), (∀ (h : Hp) (l1 : Int32) (l2 : Int32) (l3 : Int32) (l4 : Int32) (l5 : Int32), J h0 h → l3.toInt ≤ 100 → (34359738369 : Int) < n → (34359738369 : Int) + (64 - l5.toInt) < n → Ok (W_X10_fewestMown n 22 h l1 l2 l3 l4 l5) (fun q => q.2 = h ∧ True)) := by
  intro n
  induction n with
  | zero => intro h l1 l2 l3 l4 l5 j i0 hB hM; exfalso; omega
  | succ n ih =>
    intro h l1 l2 l3 l4 l5 j i0 hB hM
    rw [u_X10_fewestMown]
    refine Ok.pos rfl ?_
    refine Ok.bind (ok_J6_bitCount_0f7a4 (h0 := h0) n h l4 (by omega) j ) (fun q1 hq1 => ?_)
    obtain ⟨eq1, xq1⟩ := hq1
    rw [eq1]
    have f1 := rgT (q1.1)
    have f2 := rgT (l5)
    refine Ok.le (fun c3 => ?_) (fun c3 => ?_)
    · exact Ok.ret ⟨rfl, trivial⟩
    · have f4 := rgT (l1)
      have f5 := rgT (l2)
      have f6 := rgT (l3)
      have f7 := rgT (l4)
      refine Ok.bind (ok_X10_mownBy (h0 := h0) n h l5 l1 l2 l3 l4 (by omega) j (by omega)) (fun q4 hq4 => ?_)
      obtain ⟨eq4, xq4⟩ := hq4
      rw [eq4]
      have f8 := rgT (q4.1)
      have f9 := lit_m1
      refine Ok.eq (fun c10 => ?_) (fun c10 => ?_)
      · have f11 := lit_1
        have f12 := adT (l5) (1)
        have f13 := rgT (l5 + 1)
        exact ih h l1 l2 l3 l4 (l5 + 1) j  (by omega) (by omega) (by omega)
      · exact Ok.ret ⟨rfl, trivial⟩
set_option maxRecDepth 100000 in
set_option maxHeartbeats 4000000 in
theorem ok_X10_fewestMown {h0 : Hp} (n : Nat) (h : Hp) (x1 : Int32) (x2 : Int32) (x3 : Int32) (x4 : Int32) (hn : 51539607553 ≤ n) (j : J h0 h) (p0 : x3.toInt ≤ 100) : Ok (F_X10_fewestMown n h x1 x2 x3 x4) (fun q => q.2 = h ∧ True) := by
  unfold F_X10_fewestMown
  have f1 := rgT (x1)
  have f2 := rgT (x2)
  have f3 := rgT (hi h 204 4)
  have f4 := rgT (x4)
  have f5 := rgT (x3)
  refine Ok.bind (ok_X10_fewest (h0 := h0) n h x1 x2 (hi h 204 4) x4 x3 (by omega) j (by omega)) (fun q7 hq7 => ?_)
  obtain ⟨eq7, xq7⟩ := hq7
  rw [eq7]
  have f6 := rgT (q7.1)
  have f7 := lit_m1
  refine Ok.eq (fun c8 => ?_) (fun c8 => ?_)
  · exact Ok.ret ⟨rfl, trivial⟩
  · have f9 := lit_0
    exact okW_X10_fewestMown_22 (h0 := h0) n h x1 x2 x3 x4 0 j  (by omega) (by omega) (by omega)
set_option maxRecDepth 100000 in
set_option maxHeartbeats 4000000 in
theorem ok_X11_mows {h0 : Hp} (n : Nat) (h : Hp) (x1 : Int32) (x2 : Int32) (x3 : Int32) (x4 : Int32) (hn : 51539607553 ≤ n) (j : J h0 h) : Ok (F_X11_mows n h x1 x2 x3 x4) (fun q => J h0 q.2 ∧ True) := by
  unfold F_X11_mows
  refine Ok.bind (ok_X11_isFree (h0 := h0) n h x1 (by omega) j ) (fun q1 hq1 => ?_)
  obtain ⟨eq1, xq1⟩ := hq1
  rw [eq1]
  have f1 := rgT (q1.1)
  have f2 := lit_0
  refine Ok.eq (fun c3 => ?_) (fun c3 => ?_)
  · exact Ok.ret ⟨j, trivial⟩
  · refine Ok.bind (ok_X11_isFree (h0 := h0) n h x2 (by omega) j ) (fun q4 hq4 => ?_)
    obtain ⟨eq4, xq4⟩ := hq4
    rw [eq4]
    have f4 := rgT (q4.1)
    refine Ok.eq (fun c5 => ?_) (fun c5 => ?_)
    · exact Ok.ret ⟨j, trivial⟩
    · refine Ok.bind (ok_X11_isSpan (h0 := h0) n h x3 (by omega) j ) (fun q7 hq7 => ?_)
      obtain ⟨eq7, xq7⟩ := hq7
      rw [eq7]
      have f6 := rgT (q7.1)
      refine Ok.eq (fun c7 => ?_) (fun c7 => ?_)
      · exact Ok.ret ⟨j, trivial⟩
      · refine Ok.bind (ok_X11_isNoughtOrOne (h0 := h0) n h x4 (by omega) j ) (fun q10 hq10 => ?_)
        obtain ⟨eq10, xq10⟩ := hq10
        rw [eq10]
        have f8 := rgT (q10.1)
        refine Ok.eq (fun c9 => ?_) (fun c9 => ?_)
        · exact Ok.ret ⟨j, trivial⟩
        · refine Ok.bind (ok_X10_look (h0 := h0) n h 30 (by omega) j sc_30) (fun q13 hq13 => ?_)
          obtain ⟨jq13, xq13⟩ := hq13
          have f10 := rgT (x1)
          have f11 := rgT (x2)
          have f12 := rgT (x3)
          have f13 := rgT (hi q13 30 3)
          refine Ok.bind (ok_X10_fewestMown (h0 := h0) n q13 x1 x2 x3 (hi q13 30 3) (by omega) jq13 (by omega)) (fun q15 hq15 => ?_)
          obtain ⟨eq15, xq15⟩ := hq15
          rw [eq15]
          have f14 := rgT (q15.1)
          have f15 := lit_m1
          refine Ok.eq (fun c16 => ?_) (fun c16 => ?_)
          · exact Ok.ret ⟨jq13, trivial⟩
          · have f17 := rgT (x4)
            refine Ok.eq (fun c18 => ?_) (fun c18 => ?_)
            · refine Ok.bind (ok_J6_bitCount_0f7a4 (h0 := h0) n q13 q15.1 (by omega) jq13 ) (fun q19 hq19 => ?_)
              obtain ⟨eq19, xq19⟩ := hq19
              rw [eq19]
              exact Ok.ret ⟨jq13, trivial⟩
            · exact Ok.ret ⟨jq13, trivial⟩
set_option maxRecDepth 100000 in
set_option maxHeartbeats 4000000 in
theorem ok_X5_keepIfLess {h0 : Hp} (n : Nat) (h : Hp) (x1 : Int32) (hn : 1 ≤ n) (j : J h0 h) : Ok (F_X5_keepIfLess n h x1) (fun q => J h0 q ∧ True) := by
  unfold F_X5_keepIfLess
  have f1 := rgT (hi h 211 3)
  have f2 := lit_m1
  refine Ok.eq (fun c3 => ?_) (fun c3 => ?_)
  · generalize eg4 : wrI h 211 3 x1 = g4
    have jg4 : J h0 g4 := JwI eg4 j (by decide)
    generalize eg5 : wrA g4 213 (cpF g4 212 213 5) = g5
    have jg5 : J h0 g5 := JwA eg5 jg4 (by decide)
    exact Ok.ret ⟨jg5, trivial⟩
  · have f6 := rgT (x1)
    refine Ok.le (fun c7 => ?_) (fun c7 => ?_)
    · exact Ok.ret ⟨j, trivial⟩
    · generalize eg8 : wrI h 211 3 x1 = g8
      have jg8 : J h0 g8 := JwI eg8 j (by decide)
      generalize eg9 : wrA g8 213 (cpF g8 212 213 5) = g9
      have jg9 : J h0 g9 := JwA eg9 jg8 (by decide)
      exact Ok.ret ⟨jg9, trivial⟩
set_option maxRecDepth 100000 in
set_option maxHeartbeats 4000000 in
theorem ok_X5_distance {h0 : Hp} (n : Nat) (h : Hp) (x1 : Int32) (x2 : Int32) (hn : 1 ≤ n) (j : J h0 h) : Ok (F_X5_distance n h x1 x2) (fun q => q.2 = h ∧ True) := by
  unfold F_X5_distance
  refine Ok.bind (ok_X3_leftOf (h0 := h0) n h 24 x1 (by omega) j fd_24) (fun q1 hq1 => ?_)
  obtain ⟨eq1, xq1⟩ := hq1
  rw [eq1]
  refine Ok.bind (ok_X3_leftOf (h0 := h0) n h 24 x2 (by omega) j fd_24) (fun q3 hq3 => ?_)
  obtain ⟨eq3, xq3⟩ := hq3
  rw [eq3]
  refine Ok.bind (ok_X3_topOf (h0 := h0) n h 24 x1 (by omega) j fd_24) (fun q5 hq5 => ?_)
  obtain ⟨eq5, xq5⟩ := hq5
  rw [eq5]
  refine Ok.bind (ok_X3_topOf (h0 := h0) n h 24 x2 (by omega) j fd_24) (fun q7 hq7 => ?_)
  obtain ⟨eq7, xq7⟩ := hq7
  rw [eq7]
  exact Ok.ret ⟨rfl, trivial⟩
set_option maxRecDepth 100000 in
set_option maxHeartbeats 4000000 in
theorem okW_X5_pairOff_44 {h0 : Hp} {e : Nat} {S : Nat → Hp → Nat → Int32 → Int32 → Int32 → Option Hp} (hS : ∀ (n : Nat) (h : Hp) (b1 : Nat) (x2 x3 x4 : Int32), 584115552256 ≤ n → J h0 h → Sc b1 → 0 ≤ x4.toInt → x4.toInt ≤ 6 → 7 - x4.toInt ≤ e - 1 → Ok (S n h b1 x2 x3 x4) (fun q => J h0 q ∧ True)) : ∀ (n : Nat), (∀ (h : Hp) (b1 : Nat) (l2 : Int32) (l3 : Int32) (l4 : Int32) (l5 : Int32) (l6 : Int32) (l7 : Int32), J h0 h → Sc b1 → 0 ≤ l5.toInt → l5.toInt < 5 → 0 ≤ l7.toInt → l4.toInt ≤ 5 → 0 ≤ l4.toInt → 7 - l4.toInt ≤ e → (1 : Int) < n → (1 : Int) + (5 - l7.toInt) < n → Ok (W_X5_pairOff S n 44 h b1 l2 l3 l4 l5 l6 l7) (fun q => J h0 q ∧ True)) := by
  intro n
  induction n with
  | zero => intro h b1 l2 l3 l4 l5 l6 l7 j ht1 i0 i1 i2 i3 i4 i5 hB hM; exfalso; omega
  | succ n ih =>
    intro h b1 l2 l3 l4 l5 l6 l7 j ht1 i0 i1 i2 i3 i4 i5 hB hM
    rw [u_X5_pairOff]
    refine Ok.pos rfl ?_
    have f1 := lit_5
    have f2 := rgT (l7)
    refine Ok.le (fun c3 => ?_) (fun c3 => ?_)
    · refine Ok.bind (ok_J6_bitCount_0f7a4 (h0 := h0) n h l2 (by omega) j ) (fun q2 hq2 => ?_)
      obtain ⟨eq2, xq2⟩ := hq2
      rw [eq2]
      have f4 := and_rg (q2.1 : Int32) (1 : Int32) 1 lit_1 (by decide)
      have f5 := lit_0
      refine Ok.eq (fun c6 => ?_) (fun c6 => ?_)
      · exact Ok.ret ⟨j, trivial⟩
      · have f7 := rgT (l5)
        refine Ok.chk (ixT (by omega) (by omega)) (fun c8 => ?_)
        generalize eg9 : wrI h 212 (Int32.toNatClampNeg l5) (-2) = g9
        have jg9 : J h0 g9 := JwI eg9 j (ncO_nc (by decide))
        have f10 := rgT (l6)
        have f11 := rgT (l3)
        have f12 := rgT (l4)
        have f13 := lit_1
        have f14 := adT (l4) (1)
        have f15 := rgT (l4 + 1)
        refine Ok.bind (hS n g9 b1 l6 l3 (l4 + 1) (by omega) jg9 ht1 (by omega) (by omega) (by omega)) (fun q6 hq6 => ?_)
        obtain ⟨jq6, xq6⟩ := hq6
        exact Ok.ret ⟨jq6, trivial⟩
    · have f16 := and_rg ((((l6 : Int32).toUInt32 >>> ((l7 : Int32).toUInt32 &&& Int32.toUInt32 31)).toInt32) : Int32) (1 : Int32) 1 lit_1 (by decide)
      have f17 := lit_0
      refine Ok.eq (fun c18 => ?_) (fun c18 => ?_)
      · have f19 := rgT (l4)
        have f20 := rgT (l5)
        have f21 := lit_1
        have f22 := adT (l7) (1)
        have f23 := rgT (l7 + 1)
        exact ih h b1 l2 l3 l4 l5 l6 (l7 + 1) j ht1 (by omega) (by omega) (by omega) (by omega) (by omega) (by omega) (by omega) (by omega)
      · have f24 := rgT (l5)
        refine Ok.chk (ixT (by omega) (by omega)) (fun c25 => ?_)
        refine Ok.chk (ixT (by omega) (by omega)) (fun c26 => ?_)
        refine Ok.pos c25 ?_
        refine Ok.pos c26 ?_
        generalize eg27 : wrI h 212 (Int32.toNatClampNeg l5) l7 = g27
        have jg27 : J h0 g27 := JwI eg27 j (ncO_nc (by decide))
        generalize eg28 : wrI g27 212 (Int32.toNatClampNeg l7) l5 = g28
        have jg28 : J h0 g28 := JwI eg28 jg27 (ncO_nc (by decide))
        refine Ok.bind (ok_X5_distance (h0 := h0) n g28 (hi g28 (b1 + 2) (Int32.toNatClampNeg l5)) (hi g28 (b1 + 2) (Int32.toNatClampNeg l7)) (by omega) jg28 ) (fun q13 hq13 => ?_)
        obtain ⟨eq13, xq13⟩ := hq13
        rw [eq13]
        have f29 := rgT ((l6 : Int32) &&& (((((1 : Int32) <<< ((l7 : Int32) &&& 31)) : Int32) ^^^ ((-1) : Int32)) : Int32))
        have f30 := rgT (l3)
        have f31 := rgT (q13.1)
        have f32 := adT (l3) (q13.1)
        have f33 := rgT (l3 + q13.1)
        have f34 := rgT (l4)
        have f35 := lit_1
        have f36 := adT (l4) (1)
        have f37 := rgT (l4 + 1)
        refine Ok.bind (hS n g28 b1 ((l6 : Int32) &&& (((((1 : Int32) <<< ((l7 : Int32) &&& 31)) : Int32) ^^^ ((-1) : Int32)) : Int32)) (l3 + q13.1) (l4 + 1) (by omega) jg28 ht1 (by omega) (by omega) (by omega)) (fun q15 hq15 => ?_)
        obtain ⟨jq15, xq15⟩ := hq15
        have f38 := adT (l7) (1)
        have f39 := rgT (l7 + 1)
        exact ih q15 b1 l2 l3 l4 l5 l6 (l7 + 1) jq15 ht1 (by omega) (by omega) (by omega) (by omega) (by omega) (by omega) (by omega) (by omega)
set_option maxRecDepth 100000 in
set_option maxHeartbeats 4000000 in
theorem ok_X5_pairOff {h0 : Hp} {e : Nat} {S : Nat → Hp → Nat → Int32 → Int32 → Int32 → Option Hp} (hS : ∀ (n : Nat) (h : Hp) (b1 : Nat) (x2 x3 x4 : Int32), 584115552256 ≤ n → J h0 h → Sc b1 → 0 ≤ x4.toInt → x4.toInt ≤ 6 → 7 - x4.toInt ≤ e - 1 → Ok (S n h b1 x2 x3 x4) (fun q => J h0 q ∧ True)) (n : Nat) (h : Hp) (b1 : Nat) (x2 : Int32) (x3 : Int32) (x4 : Int32) (hn : 584115552256 ≤ n) (j : J h0 h) (ht1 : Sc b1) (p0 : 0 ≤ x4.toInt) (p1 : x4.toInt ≤ 6) (p2 : 7 - x4.toInt ≤ e) : Ok (F_X5_pairOff S n h b1 x2 x3 x4) (fun q => J h0 q ∧ True) := by
  unfold F_X5_pairOff
  refine Ok.bind (ok_X11_lowest (h0 := h0) n h x2 (by omega) j ) (fun q17 hq17 => ?_)
  obtain ⟨eq17, xq17⟩ := hq17
  rw [eq17]
  have f1 := rgT (x2)
  have f2 := lit_0
  refine Ok.eq (fun c3 => ?_) (fun c3 => ?_)
  · refine Ok.bind (ok_X5_keepIfLess (h0 := h0) n h x3 (by omega) j ) (fun q20 hq20 => ?_)
    obtain ⟨jq20, xq20⟩ := hq20
    exact Ok.ret ⟨jq20, trivial⟩
  · have f4 := lit_5
    have f5 := rgT (q17.1)
    refine Ok.le (fun c6 => ?_) (fun c6 => ?_)
    · refine Ok.bind (ok_X5_keepIfLess (h0 := h0) n h x3 (by omega) j ) (fun q23 hq23 => ?_)
      obtain ⟨jq23, xq23⟩ := hq23
      exact Ok.ret ⟨jq23, trivial⟩
    · have f7 := rgT (x4)
      refine Ok.le (fun c8 => ?_) (fun c8 => ?_)
      · have f9 := lit_1
        have f10 := adT (q17.1) (1)
        have f11 := rgT (q17.1 + 1)
        exact okW_X5_pairOff_44 (h0 := h0) hS n h b1 x2 x3 x4 q17.1 ((x2 : Int32) &&& (((((1 : Int32) <<< ((q17.1 : Int32) &&& 31)) : Int32) ^^^ ((-1) : Int32)) : Int32)) (q17.1 + 1) j ht1 (by omega) (by omega) (by omega) (by omega) (by omega) (by omega) (by omega) (by omega)
      · refine Ok.bind (ok_X5_keepIfLess (h0 := h0) n h x3 (by omega) j ) (fun q26 hq26 => ?_)
        obtain ⟨jq26, xq26⟩ := hq26
        exact Ok.ret ⟨jq26, trivial⟩
theorem okL_X5_pairOff {h0 : Hp} : ∀ (l : Nat) (n : Nat) (h : Hp) (b1 : Nat) (x2 x3 x4 : Int32), 584115552256 ≤ n → J h0 h → Sc b1 → 0 ≤ x4.toInt → x4.toInt ≤ 6 → 7 - x4.toInt ≤ l → Ok (L_X5_pairOff l n h b1 x2 x3 x4) (fun q => J h0 q ∧ True) := by
  intro l
  induction l with
  | zero => intro n h b1 x2 x3 x4 hn j ht p0 p1 p2; exfalso; omega
  | succ l ih =>
    intro n h b1 x2 x3 x4 hn j ht p0 p1 p2
    show Ok (F_X5_pairOff (L_X5_pairOff l) n h b1 x2 x3 x4) _
    exact ok_X5_pairOff (h0 := h0) (e := l + 1) (fun n h b1 x2 x3 x4 hn j ht q0 q1 q2 => ih n h b1 x2 x3 x4 hn j ht q0 q1 (by omega)) n h b1 x2 x3 x4 (by omega) j ht p0 p1 (by omega)
theorem ok_X5_pairOffT {h0 : Hp} (n : Nat) (h : Hp) (b1 : Nat) (x2 x3 x4 : Int32) (hn : 584115552256 ≤ n) (j : J h0 h) (ht1 : Sc b1) (p0 : x4.toInt = 0) : Ok (F_X5_pairOffT n h b1 x2 x3 x4) (fun q => J h0 q ∧ True) := by
  unfold F_X5_pairOffT
  exact okL_X5_pairOff 8 n h b1 x2 x3 x4 hn j ht1 (by omega) (by omega) (by omega)
set_option maxRecDepth 100000 in
set_option maxHeartbeats 4000000 in
theorem ok_X5_match {h0 : Hp} (n : Nat) (h : Hp) (b1 : Nat) (x2 : Int32) (hn : 584115552256 ≤ n) (j : J h0 h) (ht1 : Sc b1) : Ok (F_X5_match n h b1 x2) (fun q => J h0 q ∧ True) := by
  unfold F_X5_match
  generalize eg1 : wrI h 211 3 (-1) = g1
  have jg1 : J h0 g1 := JwI eg1 j (by decide)
  have f2 := rgT ((1 : Int32) <<< ((x2 : Int32) &&& 31))
  have f3 := lit_1
  have f4 := sbT ((1 : Int32) <<< ((x2 : Int32) &&& 31)) (1)
  have f5 := rgT (((1 : Int32) <<< ((x2 : Int32) &&& 31)) - 1)
  have f6 := lit_0
  refine Ok.bind (ok_X5_pairOffT (h0 := h0) n g1 b1 (((1 : Int32) <<< ((x2 : Int32) &&& 31)) - 1) 0 0 (by omega) jg1 ht1 (by omega)) (fun q1 hq1 => ?_)
  obtain ⟨jq1, xq1⟩ := hq1
  exact Ok.ret ⟨jq1, trivial⟩
set_option maxRecDepth 100000 in
set_option maxHeartbeats 4000000 in
theorem ok_X11_pairs {h0 : Hp} (n : Nat) (h : Hp) (x1 : Int32) (hn : 584115552256 ≤ n) (j : J h0 h) : Ok (F_X11_pairs n h x1) (fun q => J h0 q.2 ∧ True) := by
  unfold F_X11_pairs
  have f1 := rgT (x1)
  have f2 := lit_m1
  refine Ok.eq (fun c3 => ?_) (fun c3 => ?_)
  · refine Ok.bind (ok_X5_match (h0 := h0) n h 30 (hi h 23 2) (by omega) j sc_30) (fun q2 hq2 => ?_)
    obtain ⟨jq2, xq2⟩ := hq2
    refine Ok.eq (fun c4 => ?_) (fun c4 => ?_)
    · exact Ok.ret ⟨jq2, trivial⟩
    · refine Ok.chk (ixT (by omega) (by omega)) (fun c5 => ?_)
      exact Ok.ret ⟨jq2, trivial⟩
  · refine Ok.bind (ok_X0_hasGoer (h0 := h0) n h 23 x1 (by omega) j bd_23) (fun q6 hq6 => ?_)
    obtain ⟨eq6, xq6⟩ := hq6
    rw [eq6]
    have f6 := rgT (q6.1)
    have f7 := lit_0
    refine Ok.eq (fun c8 => ?_) (fun c8 => ?_)
    · exact Ok.ret ⟨j, trivial⟩
    · refine Ok.bind (ok_X5_match (h0 := h0) n h 30 (hi h 23 2) (by omega) j sc_30) (fun q9 hq9 => ?_)
      obtain ⟨jq9, xq9⟩ := hq9
      refine Ok.eq (fun c9 => ?_) (fun c9 => ?_)
      · exact Ok.ret ⟨jq9, trivial⟩
      · refine Ok.chk (ixT (by omega) (by omega)) (fun c10 => ?_)
        exact Ok.ret ⟨jq9, trivial⟩
set_option maxRecDepth 100000 in
set_option maxHeartbeats 4000000 in
theorem okW_X3_lay_17 {h0 : Hp} : ∀ (n : Nat), (∀ (h : Hp) (a : Nat) (l1 : Int32) (l2 : Int32) (l3 : Int32), J h0 h → IsFd a → (1 : Int) < n → (1 : Int) + ((hi h a 1).toInt - l3.toInt) < n → Ok (W_X3_lay n 17 h a l1 l2 l3) (fun q => J h0 q ∧ True)) := by
  intro n
  induction n with
  | zero => intro h a l1 l2 l3 j hs hB hM; exfalso; omega
  | succ n ih =>
    intro h a l1 l2 l3 j hs hB hM
    rw [u_X3_lay]
    refine Ok.pos rfl ?_
    have f1 := rgT (hi h a 1)
    have f2 := rgT (l3)
    refine Ok.le (fun c3 => ?_) (fun c3 => ?_)
    · generalize eg4 : wrI h a 2 (((1 : Int32) <<< ((((hi h a 0) * (hi h a 1)) : Int32) &&& 31)) - 1) = g4
      have jg4 : J h0 g4 := JwI eg4 j (ncO_nc (fdO hs))
      exact Ok.ret ⟨jg4, trivial⟩
    · generalize eg5 : wrI h a 3 (((hi h a 3) : Int32) ||| (((1 : Int32) <<< ((((hi h a 0) * l3) : Int32) &&& 31)) : Int32)) = g5
      have jg5 : J h0 g5 := JwI eg5 j (ncO_nc (fdO hs))
      have f6 := lit_1
      have f7 := adT (l3) (1)
      have f8 := rgT (l3 + 1)
      have f9 := congrArg Int32.toInt (hiK eg5 a 1 (by decide))
      exact ih g5 a l1 l2 (l3 + 1) jg5 hs  (by omega) (by omega)
set_option maxRecDepth 100000 in
set_option maxHeartbeats 4000000 in
theorem ok_X3_lay {h0 : Hp} (n : Nat) (h : Hp) (a : Nat) (x1 : Int32) (x2 : Int32) (hn : 17179869185 ≤ n) (j : J h0 h) (hs : IsFd a) : Ok (F_X3_lay n h a x1 x2) (fun q => J h0 q ∧ True) := by
  unfold F_X3_lay
  generalize eg1 : wrI h a 0 x1 = g1
  have jg1 : J h0 g1 := JwI eg1 j (ncO_nc (fdO hs))
  generalize eg2 : wrI g1 a 1 x2 = g2
  have jg2 : J h0 g2 := JwI eg2 jg1 (ncO_nc (fdO hs))
  generalize eg3 : wrI g2 a 3 0 = g3
  have jg3 : J h0 g3 := JwI eg3 jg2 (ncO_nc (fdO hs))
  have f4 := lit_0
  have f5 := congrArg Int32.toInt (hiK eg3 a 1 (by decide))
  have f6 := congrArg Int32.toInt (hiE eg2)
  have f7 := rgT (x2)
  exact okW_X3_lay_17 (h0 := h0) n g3 a x1 x2 0 jg3 hs  (by omega) (by omega)
set_option maxRecDepth 100000 in
set_option maxHeartbeats 4000000 in
theorem ok_X4_begin {h0 : Hp} (n : Nat) (h : Hp) (a : Nat) (x1 : Int32) (hn : 1 ≤ n) (j : J h0 h) (hs : IsLw a) : Ok (F_X4_begin n h a x1) (fun q => J h0 q ∧ True) := by
  unfold F_X4_begin
  have f1 := rgT (x1)
  have f2 := lit_0
  refine Ok.lt (fun c3 => ?_) (fun c3 => ?_)
  · exact Ok.ret ⟨j, trivial⟩
  · have f4 := lit_4
    refine Ok.le (fun c5 => ?_) (fun c5 => ?_)
    · exact Ok.ret ⟨j, trivial⟩
    · refine Ok.chk (ixT (by omega) (by omega)) (fun c6 => ?_)
      generalize eg7 : wrI h (a + 2) (Int32.toNatClampNeg x1) (hi h a 3) = g7
      have jg7 : J h0 g7 := JwI eg7 j (ncO_nc (lwO hs).2.2.1)
      exact Ok.ret ⟨jg7, trivial⟩
set_option maxRecDepth 100000 in
set_option maxHeartbeats 4000000 in
theorem ok_X4_add {h0 : Hp} (n : Nat) (h : Hp) (a : Nat) (x1 : Int32) (hn : 1 ≤ n) (j : J h0 h) (hs : IsLw a) : Ok (F_X4_add n h a x1) (fun q => J h0 q ∧ True) := by
  unfold F_X4_add
  have f1 := lit_404
  have f2 := cR a 3 0 404 (lwC hs) j
  have f3 := rgT (hi h a 3)
  refine Ok.le (fun c4 => ?_) (fun c4 => ?_)
  · exact Ok.ret ⟨j, trivial⟩
  · refine Ok.chk (ixT (by omega) (by omega)) (fun c5 => ?_)
    generalize eg6 : wrI h (a + 1) (Int32.toNatClampNeg (hi h a 3)) x1 = g6
    have jg6 : J h0 g6 := JwI eg6 j (ncO_nc (lwO hs).2.1)
    generalize eg7 : wrI g6 a 3 ((hi g6 a 3) + 1) = g7
    have f8 := congrArg Int32.toInt (hiA eg6 a 3 (by omega))
    have f9 := rgT (hi g6 a 3)
    have f10 := lit_1
    have f11 := adT (hi g6 a 3) (1)
    have f12 := rgT ((hi g6 a 3) + 1)
    have jg7 : J h0 g7 := JwC 0 404 eg7 jg6 (lwC hs) ⟨by omega, by omega⟩
    exact Ok.ret ⟨jg7, trivial⟩
set_option maxRecDepth 100000 in
set_option maxHeartbeats 4000000 in
theorem ok_X4_clear {h0 : Hp} (n : Nat) (h : Hp) (a : Nat) (hn : 1 ≤ n) (j : J h0 h) (hs : IsLw a) : Ok (F_X4_clear n h a) (fun q => J h0 q ∧ True) := by
  unfold F_X4_clear
  generalize eg1 : wrI h a 3 0 = g1
  have f2 := lit_0
  have jg1 : J h0 g1 := JwC 0 404 eg1 j (lwC hs) ⟨by omega, by omega⟩
  refine Ok.bind (ok_X4_begin (h0 := h0) n g1 a 0 (by omega) jg1 hs) (fun q1 hq1 => ?_)
  obtain ⟨jq1, xq1⟩ := hq1
  refine Ok.bind (ok_X4_begin (h0 := h0) n q1 a 2 (by omega) jq1 hs) (fun q3 hq3 => ?_)
  obtain ⟨jq3, xq3⟩ := hq3
  refine Ok.bind (ok_X4_add (h0 := h0) n q3 a 0 (by omega) jq3 hs) (fun q5 hq5 => ?_)
  obtain ⟨jq5, xq5⟩ := hq5
  refine Ok.bind (ok_X4_add (h0 := h0) n q5 a (-15) (by omega) jq5 hs) (fun q7 hq7 => ?_)
  obtain ⟨jq7, xq7⟩ := hq7
  refine Ok.bind (ok_X4_begin (h0 := h0) n q7 a 1 (by omega) jq7 hs) (fun q9 hq9 => ?_)
  obtain ⟨jq9, xq9⟩ := hq9
  refine Ok.bind (ok_X4_begin (h0 := h0) n q9 a 3 (by omega) jq9 hs) (fun q11 hq11 => ?_)
  obtain ⟨jq11, xq11⟩ := hq11
  refine Ok.bind (ok_X4_add (h0 := h0) n q11 a 1 (by omega) jq11 hs) (fun q13 hq13 => ?_)
  obtain ⟨jq13, xq13⟩ := hq13
  refine Ok.bind (ok_X4_add (h0 := h0) n q13 a (-15) (by omega) jq13 hs) (fun q15 hq15 => ?_)
  obtain ⟨jq15, xq15⟩ := hq15
  exact Ok.ret ⟨jq15, trivial⟩
set_option maxRecDepth 100000 in
set_option maxHeartbeats 4000000 in
theorem ok_X0_clear {h0 : Hp} (n : Nat) (h : Hp) (a : Nat) (hn : 17179869185 ≤ n) (j : J h0 h) (hs : IsBd a) : Ok (F_X0_clear n h a) (fun q => J h0 q ∧ True) := by
  unfold F_X0_clear
  refine Ok.bind (ok_X3_lay (h0 := h0) n h (a + 1) 4 4 (by omega) j hs.2.1) (fun q1 hq1 => ?_)
  obtain ⟨jq1, xq1⟩ := hq1
  refine Ok.bind (ok_X4_clear (h0 := h0) n q1 (a + 2) (by omega) jq1 hs.2.2.1) (fun q3 hq3 => ?_)
  obtain ⟨jq3, xq3⟩ := hq3
  generalize eg1 : wrI q3 a 2 0 = g1
  have f2 := lit_0
  have jg1 : J h0 g1 := JwC 0 5 eg1 jq3 (bdC hs) ⟨by omega, by omega⟩
  generalize eg3 : wrI g1 a 3 0 = g3
  have jg3 : J h0 g3 := JwI eg3 jg1 (bdN 3 hs (by decide))
  generalize eg4 : wrI g3 a 4 0 = g4
  have jg4 : J h0 g4 := JwI eg4 jg3 (bdN 4 hs (by decide))
  exact Ok.ret ⟨jg4, trivial⟩
set_option maxRecDepth 100000 in
set_option maxHeartbeats 4000000 in
theorem okW_J7_fill_5_5 {h0 : Hp} : ∀ (n : Nat), (∀ (h : Hp) (b1 : Nat) (l1 : Int32) (l2 : Int32) (l3 : Int32), J h0 h → ncO b1 = true → 0 ≤ l2.toInt → l3.toInt = 5 → (1 : Int) < n → (1 : Int) + (5 - l2.toInt) < n → Ok (W_J7_fill_5 n 5 h b1 l1 l2 l3) (fun q => J h0 q ∧ True)) := by
  intro n
  induction n with
  | zero => intro h b1 l1 l2 l3 j p0 i0 i1 hB hM; exfalso; omega
  | succ n ih =>
    intro h b1 l1 l2 l3 j p0 i0 i1 hB hM
    rw [u_J7_fill_5]
    refine Ok.pos rfl ?_
    have f1 := rgT (l3)
    have f2 := rgT (l2)
    refine Ok.le (fun c3 => ?_) (fun c3 => ?_)
    · exact Ok.ret ⟨j, trivial⟩
    · refine Ok.chk (ixT (by omega) (by omega)) (fun c4 => ?_)
      generalize eg5 : wrI h b1 (Int32.toNatClampNeg l2) l1 = g5
      have jg5 : J h0 g5 := JwI eg5 j (ncO_nc p0)
      have f6 := lit_1
      have f7 := adT (l2) (1)
      have f8 := rgT (l2 + 1)
      exact ih g5 b1 l1 (l2 + 1) l3 jg5 p0 (by omega) (by omega) (by omega) (by omega)
set_option maxRecDepth 100000 in
set_option maxHeartbeats 4000000 in
theorem ok_J7_fill_5 {h0 : Hp} (n : Nat) (h : Hp) (b1 : Nat) (x2 : Int32) (hn : 17179869185 ≤ n) (j : J h0 h) (p0 : ncO b1 = true) : Ok (F_J7_fill_5 n h b1 x2) (fun q => J h0 q ∧ True) := by
  unfold F_J7_fill_5
  have f1 := lit_0
  have f2 := lit_5
  exact okW_J7_fill_5_5 (h0 := h0) n h b1 x2 0 5 j p0 (by omega) (by omega) (by omega) (by omega)
set_option maxRecDepth 100000 in
set_option maxHeartbeats 4000000 in
theorem ok_X8_clear {h0 : Hp} (n : Nat) (h : Hp) (a : Nat) (hn : 17179869185 ≤ n) (j : J h0 h) (hs : Sc a) : Ok (F_X8_clear n h a) (fun q => J h0 q ∧ True) := by
  unfold F_X8_clear
  generalize eg1 : wrI h a 0 0 = g1
  have jg1 : J h0 g1 := JwI eg1 j (ncO_nc (scO hs).1)
  generalize eg2 : wrI g1 a 1 0 = g2
  have jg2 : J h0 g2 := JwI eg2 jg1 (ncO_nc (scO hs).1)
  generalize eg3 : wrI g2 a 2 0 = g3
  have jg3 : J h0 g3 := JwI eg3 jg2 (ncO_nc (scO hs).1)
  generalize eg4 : wrI g3 a 3 0 = g4
  have jg4 : J h0 g4 := JwI eg4 jg3 (ncO_nc (scO hs).1)
  have f5 := lit_0
  refine Ok.bind (ok_J7_fill_5 (h0 := h0) n g4 (a + 3) 0 (by omega) jg4 (scO hs).2.2.2) (fun q1 hq1 => ?_)
  obtain ⟨jq1, xq1⟩ := hq1
  exact Ok.ret ⟨jq1, trivial⟩
set_option maxRecDepth 100000 in
set_option maxHeartbeats 4000000 in
theorem ok_X7_clear {h0 : Hp} (n : Nat) (h : Hp) (hn : 17179869185 ≤ n) (j : J h0 h) : Ok (F_X7_clear n h) (fun q => J h0 q ∧ True) := by
  unfold F_X7_clear
  refine Ok.bind (ok_X0_clear (h0 := h0) n h 3 (by omega) j bd_3) (fun q1 hq1 => ?_)
  obtain ⟨jq1, xq1⟩ := hq1
  refine Ok.bind (ok_X8_clear (h0 := h0) n q1 10 (by omega) jq1 sc_10) (fun q3 hq3 => ?_)
  obtain ⟨jq3, xq3⟩ := hq3
  generalize eg1 : wrI q3 2 2 (-1) = g1
  have jg1 : J h0 g1 := JwI eg1 jq3 (by decide)
  generalize eg2 : wrI g1 2 4 0 = g2
  have jg2 : J h0 g2 := JwI eg2 jg1 (by decide)
  generalize eg3 : wrI g2 2 5 0 = g3
  have jg3 : J h0 g3 := JwI eg3 jg2 (by decide)
  generalize eg4 : wrI g3 2 6 0 = g4
  have jg4 : J h0 g4 := JwI eg4 jg3 (by decide)
  generalize eg5 : wrI g4 2 7 (-1) = g5
  have jg5 : J h0 g5 := JwI eg5 jg4 (by decide)
  have f6 := lit_0
  refine Ok.bind (ok_J7_fill_25 (h0 := h0) n g5 16 0 (by omega) jg5 (by decide)) (fun q5 hq5 => ?_)
  obtain ⟨jq5, xq5⟩ := hq5
  generalize eg7 : wrI q5 2 12 0 = g7
  have jg7 : J h0 g7 := JwI eg7 jq5 (by decide)
  generalize eg8 : wrI g7 2 13 0 = g8
  have jg8 : J h0 g8 := JwI eg8 jg7 (by decide)
  generalize eg9 : wrI g8 2 14 0 = g9
  have jg9 : J h0 g9 := JwI eg9 jg8 (by decide)
  exact Ok.ret ⟨jg9, trivial⟩
set_option maxRecDepth 100000 in
set_option maxHeartbeats 4000000 in
theorem ok_X9_signAt {h0 : Hp} (n : Nat) (h : Hp) (x1 : Int32) (hn : 1 ≤ n) (j : J h0 h) : Ok (F_X9_signAt n h x1) (fun q => q.2 = h ∧ True) := by
  unfold F_X9_signAt
  have f1 := rgT (x1)
  have f2 := lit_0
  refine Ok.lt (fun c3 => ?_) (fun c3 => ?_)
  · exact Ok.ret ⟨rfl, trivial⟩
  · have f4 := cR 18 6 0 2000 (by decide) j
    have f5 := rgT (hi h 18 6)
    refine Ok.le (fun c6 => ?_) (fun c6 => ?_)
    · exact Ok.ret ⟨rfl, trivial⟩
    · have f7 := lit_2000
      refine Ok.le (fun c8 => ?_) (fun c8 => ?_)
      · exact Ok.ret ⟨rfl, trivial⟩
      · refine Ok.chk (ixT (by omega) (by omega)) (fun c9 => ?_)
        exact Ok.ret ⟨rfl, trivial⟩
set_option maxRecDepth 100000 in
set_option maxHeartbeats 4000000 in
theorem ok_X9_isBlank {h0 : Hp} (n : Nat) (h : Hp) (x1 : Int32) (hn : 1 ≤ n) (j : J h0 h) : Ok (F_X9_isBlank n h x1) (fun q => q.2 = h ∧ True) := by
  unfold F_X9_isBlank
  have f1 := rgT (x1)
  have f2 := lit_9
  refine Ok.eq (fun c3 => ?_) (fun c3 => ?_)
  · exact Ok.ret ⟨rfl, trivial⟩
  · have f4 := lit_10
    refine Ok.eq (fun c5 => ?_) (fun c5 => ?_)
    · exact Ok.ret ⟨rfl, trivial⟩
    · have f6 := lit_13
      refine Ok.eq (fun c7 => ?_) (fun c7 => ?_)
      · exact Ok.ret ⟨rfl, trivial⟩
      · have f8 := lit_32
        refine Ok.eq (fun c9 => ?_) (fun c9 => ?_)
        · exact Ok.ret ⟨rfl, trivial⟩
        · exact Ok.ret ⟨rfl, trivial⟩
set_option maxRecDepth 100000 in
set_option maxHeartbeats 4000000 in
theorem okW_X9_behindBlanks_2 {h0 : Hp} : ∀ (n : Nat), (∀ (h : Hp) (l1 : Int32) (l2 : Int32), J h0 h → (1 : Int) < n → (1 : Int) + (2001 - l2.toInt) < n → Ok (W_X9_behindBlanks n 2 h l1 l2) (fun q => q.2 = h ∧ True)) := by
  intro n
  induction n with
  | zero => intro h l1 l2 j hB hM; exfalso; omega
  | succ n ih =>
    intro h l1 l2 j hB hM
    rw [u_X9_behindBlanks]
    refine Ok.pos rfl ?_
    have f1 := cR 18 6 0 2000 (by decide) j
    have f2 := rgT (hi h 18 6)
    have f3 := rgT (l2)
    refine Ok.le (fun c4 => ?_) (fun c4 => ?_)
    · exact Ok.ret ⟨rfl, trivial⟩
    · refine Ok.bind (ok_X9_signAt (h0 := h0) n h l2 (by omega) j ) (fun q2 hq2 => ?_)
      obtain ⟨eq2, xq2⟩ := hq2
      rw [eq2]
      refine Ok.bind (ok_X9_isBlank (h0 := h0) n h q2.1 (by omega) j ) (fun q4 hq4 => ?_)
      obtain ⟨eq4, xq4⟩ := hq4
      rw [eq4]
      have f5 := rgT (q4.1)
      have f6 := lit_0
      refine Ok.eq (fun c7 => ?_) (fun c7 => ?_)
      · exact Ok.ret ⟨rfl, trivial⟩
      · have f8 := lit_1
        have f9 := adT (l2) (1)
        have f10 := rgT (l2 + 1)
        exact ih h l1 (l2 + 1) j   (by omega) (by omega)
set_option maxRecDepth 100000 in
set_option maxHeartbeats 4000000 in
theorem ok_X9_behindBlanks {h0 : Hp} (n : Nat) (h : Hp) (x1 : Int32) (hn : 17179869185 ≤ n) (j : J h0 h) : Ok (F_X9_behindBlanks n h x1) (fun q => q.2 = h ∧ True) := by
  unfold F_X9_behindBlanks
  have f1 := rgT (x1)
  exact okW_X9_behindBlanks_2 (h0 := h0) n h x1 x1 j   (by omega) (by omega)
set_option maxRecDepth 100000 in
set_option maxHeartbeats 4000000 in
theorem ok_X9_isLetter {h0 : Hp} (n : Nat) (h : Hp) (x1 : Int32) (hn : 1 ≤ n) (j : J h0 h) : Ok (F_X9_isLetter n h x1) (fun q => q.2 = h ∧ True) := by
  unfold F_X9_isLetter
  have f1 := rgT (x1)
  have f2 := lit_97
  refine Ok.lt (fun c3 => ?_) (fun c3 => ?_)
  · exact Ok.ret ⟨rfl, trivial⟩
  · have f4 := lit_122
    refine Ok.lt (fun c5 => ?_) (fun c5 => ?_)
    · exact Ok.ret ⟨rfl, trivial⟩
    · exact Ok.ret ⟨rfl, trivial⟩
set_option maxRecDepth 100000 in
set_option maxHeartbeats 4000000 in
theorem ok_X9_isDigit {h0 : Hp} (n : Nat) (h : Hp) (x1 : Int32) (hn : 1 ≤ n) (j : J h0 h) : Ok (F_X9_isDigit n h x1) (fun q => q.2 = h ∧ True) := by
  unfold F_X9_isDigit
  have f1 := rgT (x1)
  have f2 := lit_48
  refine Ok.lt (fun c3 => ?_) (fun c3 => ?_)
  · exact Ok.ret ⟨rfl, trivial⟩
  · have f4 := lit_57
    refine Ok.lt (fun c5 => ?_) (fun c5 => ?_)
    · exact Ok.ret ⟨rfl, trivial⟩
    · exact Ok.ret ⟨rfl, trivial⟩
set_option maxRecDepth 100000 in
set_option maxHeartbeats 4000000 in
theorem ok_X9_isSign {h0 : Hp} (n : Nat) (h : Hp) (x1 : Int32) (hn : 1 ≤ n) (j : J h0 h) : Ok (F_X9_isSign n h x1) (fun q => q.2 = h ∧ True) := by
  unfold F_X9_isSign
  have f1 := rgT (x1)
  have f2 := lit_40
  refine Ok.eq (fun c3 => ?_) (fun c3 => ?_)
  · exact Ok.ret ⟨rfl, trivial⟩
  · have f4 := lit_41
    refine Ok.eq (fun c5 => ?_) (fun c5 => ?_)
    · exact Ok.ret ⟨rfl, trivial⟩
    · have f6 := lit_42
      refine Ok.eq (fun c7 => ?_) (fun c7 => ?_)
      · exact Ok.ret ⟨rfl, trivial⟩
      · have f8 := lit_43
        refine Ok.eq (fun c9 => ?_) (fun c9 => ?_)
        · exact Ok.ret ⟨rfl, trivial⟩
        · have f10 := lit_44
          refine Ok.eq (fun c11 => ?_) (fun c11 => ?_)
          · exact Ok.ret ⟨rfl, trivial⟩
          · have f12 := lit_45
            refine Ok.eq (fun c13 => ?_) (fun c13 => ?_)
            · exact Ok.ret ⟨rfl, trivial⟩
            · have f14 := lit_46
              refine Ok.eq (fun c15 => ?_) (fun c15 => ?_)
              · exact Ok.ret ⟨rfl, trivial⟩
              · have f16 := lit_47
                refine Ok.eq (fun c17 => ?_) (fun c17 => ?_)
                · exact Ok.ret ⟨rfl, trivial⟩
                · have f18 := lit_48
                  refine Ok.eq (fun c19 => ?_) (fun c19 => ?_)
                  · exact Ok.ret ⟨rfl, trivial⟩
                  · have f20 := lit_49
                    refine Ok.eq (fun c21 => ?_) (fun c21 => ?_)
                    · exact Ok.ret ⟨rfl, trivial⟩
                    · have f22 := lit_50
                      refine Ok.eq (fun c23 => ?_) (fun c23 => ?_)
                      · exact Ok.ret ⟨rfl, trivial⟩
                      · have f24 := lit_51
                        refine Ok.eq (fun c25 => ?_) (fun c25 => ?_)
                        · exact Ok.ret ⟨rfl, trivial⟩
                        · have f26 := lit_52
                          refine Ok.eq (fun c27 => ?_) (fun c27 => ?_)
                          · exact Ok.ret ⟨rfl, trivial⟩
                          · have f28 := lit_53
                            refine Ok.eq (fun c29 => ?_) (fun c29 => ?_)
                            · exact Ok.ret ⟨rfl, trivial⟩
                            · have f30 := lit_54
                              refine Ok.eq (fun c31 => ?_) (fun c31 => ?_)
                              · exact Ok.ret ⟨rfl, trivial⟩
                              · have f32 := lit_55
                                refine Ok.eq (fun c33 => ?_) (fun c33 => ?_)
                                · exact Ok.ret ⟨rfl, trivial⟩
                                · have f34 := lit_56
                                  refine Ok.eq (fun c35 => ?_) (fun c35 => ?_)
                                  · exact Ok.ret ⟨rfl, trivial⟩
                                  · have f36 := lit_57
                                    refine Ok.eq (fun c37 => ?_) (fun c37 => ?_)
                                    · exact Ok.ret ⟨rfl, trivial⟩
                                    · have f38 := lit_58
                                      refine Ok.eq (fun c39 => ?_) (fun c39 => ?_)
                                      · exact Ok.ret ⟨rfl, trivial⟩
                                      · have f40 := lit_59
                                        refine Ok.eq (fun c41 => ?_) (fun c41 => ?_)
                                        · exact Ok.ret ⟨rfl, trivial⟩
                                        · have f42 := lit_60
                                          refine Ok.eq (fun c43 => ?_) (fun c43 => ?_)
                                          · exact Ok.ret ⟨rfl, trivial⟩
                                          · have f44 := lit_61
                                            refine Ok.eq (fun c45 => ?_) (fun c45 => ?_)
                                            · exact Ok.ret ⟨rfl, trivial⟩
                                            · exact Ok.ret ⟨rfl, trivial⟩
set_option maxRecDepth 100000 in
set_option maxHeartbeats 4000000 in
theorem okW_X9_behindDigits_2 {h0 : Hp} : ∀ (n : Nat), (∀ (h : Hp) (l1 : Int32) (l2 : Int32), J h0 h → (1 : Int) < n → (1 : Int) + (2001 - l2.toInt) < n → Ok (W_X9_behindDigits n 2 h l1 l2) (fun q => q.2 = h ∧ True)) := by
  intro n
  induction n with
  | zero => intro h l1 l2 j hB hM; exfalso; omega
  | succ n ih =>
    intro h l1 l2 j hB hM
    rw [u_X9_behindDigits]
    refine Ok.pos rfl ?_
    have f1 := cR 18 6 0 2000 (by decide) j
    have f2 := rgT (hi h 18 6)
    have f3 := rgT (l2)
    refine Ok.le (fun c4 => ?_) (fun c4 => ?_)
    · exact Ok.ret ⟨rfl, trivial⟩
    · refine Ok.bind (ok_X9_signAt (h0 := h0) n h l2 (by omega) j ) (fun q2 hq2 => ?_)
      obtain ⟨eq2, xq2⟩ := hq2
      rw [eq2]
      refine Ok.bind (ok_X9_isDigit (h0 := h0) n h q2.1 (by omega) j ) (fun q4 hq4 => ?_)
      obtain ⟨eq4, xq4⟩ := hq4
      rw [eq4]
      have f5 := rgT (q4.1)
      have f6 := lit_0
      refine Ok.eq (fun c7 => ?_) (fun c7 => ?_)
      · exact Ok.ret ⟨rfl, trivial⟩
      · have f8 := lit_1
        have f9 := adT (l2) (1)
        have f10 := rgT (l2 + 1)
        exact ih h l1 (l2 + 1) j   (by omega) (by omega)
set_option maxRecDepth 100000 in
set_option maxHeartbeats 4000000 in
theorem ok_X9_behindDigits {h0 : Hp} (n : Nat) (h : Hp) (x1 : Int32) (hn : 17179869185 ≤ n) (j : J h0 h) : Ok (F_X9_behindDigits n h x1) (fun q => q.2 = h ∧ True) := by
  unfold F_X9_behindDigits
  have f1 := rgT (x1)
  exact okW_X9_behindDigits_2 (h0 := h0) n h x1 x1 j   (by omega) (by omega)
set_option maxRecDepth 100000 in
set_option maxHeartbeats 4000000 in
theorem okW_X9_numberOf_5 {h0 : Hp} : ∀ (n : Nat), (∀ (h : Hp) (l1 : Int32) (l2 : Int32) (l3 : Int32) (l4 : Int32), J h0 h → (1 : Int) < n → (1 : Int) + (l2.toInt - l4.toInt) < n → Ok (W_X9_numberOf n 5 h l1 l2 l3 l4) (fun q => q.2 = h ∧ True)) := by
  intro n
  induction n with
  | zero => intro h l1 l2 l3 l4 j hB hM; exfalso; omega
  | succ n ih =>
    intro h l1 l2 l3 l4 j hB hM
    rw [u_X9_numberOf]
    refine Ok.pos rfl ?_
    have f1 := rgT (l2)
    have f2 := rgT (l4)
    refine Ok.le (fun c3 => ?_) (fun c3 => ?_)
    · exact Ok.ret ⟨rfl, trivial⟩
    · refine Ok.bind (ok_X9_signAt (h0 := h0) n h l4 (by omega) j ) (fun q2 hq2 => ?_)
      obtain ⟨eq2, xq2⟩ := hq2
      rw [eq2]
      have f4 := lit_1
      have f5 := adT (l4) (1)
      have f6 := rgT (l4 + 1)
      exact ih h l1 l2 ((10 * l3) + (q2.1 - 48)) (l4 + 1) j   (by omega) (by omega)
set_option maxRecDepth 100000 in
set_option maxHeartbeats 4000000 in
theorem ok_X9_numberOf {h0 : Hp} (n : Nat) (h : Hp) (x1 : Int32) (x2 : Int32) (hn : 17179869185 ≤ n) (j : J h0 h) : Ok (F_X9_numberOf n h x1 x2) (fun q => q.2 = h ∧ True) := by
  unfold F_X9_numberOf
  have f1 := rgT (x2)
  have f2 := rgT (x1)
  exact okW_X9_numberOf_5 (h0 := h0) n h x1 x2 0 x1 j   (by omega) (by omega)
set_option maxRecDepth 100000 in
set_option maxHeartbeats 4000000 in
theorem okW_X9_behindLetters_2 {h0 : Hp} : ∀ (n : Nat), (∀ (h : Hp) (l1 : Int32) (l2 : Int32), J h0 h → (1 : Int) < n → (1 : Int) + (2001 - l2.toInt) < n → Ok (W_X9_behindLetters n 2 h l1 l2) (fun q => q.2 = h ∧ True)) := by
  intro n
  induction n with
  | zero => intro h l1 l2 j hB hM; exfalso; omega
  | succ n ih =>
    intro h l1 l2 j hB hM
    rw [u_X9_behindLetters]
    refine Ok.pos rfl ?_
    have f1 := cR 18 6 0 2000 (by decide) j
    have f2 := rgT (hi h 18 6)
    have f3 := rgT (l2)
    refine Ok.le (fun c4 => ?_) (fun c4 => ?_)
    · exact Ok.ret ⟨rfl, trivial⟩
    · refine Ok.bind (ok_X9_signAt (h0 := h0) n h l2 (by omega) j ) (fun q2 hq2 => ?_)
      obtain ⟨eq2, xq2⟩ := hq2
      rw [eq2]
      refine Ok.bind (ok_X9_isLetter (h0 := h0) n h q2.1 (by omega) j ) (fun q4 hq4 => ?_)
      obtain ⟨eq4, xq4⟩ := hq4
      rw [eq4]
      have f5 := rgT (q4.1)
      have f6 := lit_0
      refine Ok.eq (fun c7 => ?_) (fun c7 => ?_)
      · exact Ok.ret ⟨rfl, trivial⟩
      · have f8 := lit_1
        have f9 := adT (l2) (1)
        have f10 := rgT (l2 + 1)
        exact ih h l1 (l2 + 1) j   (by omega) (by omega)
set_option maxRecDepth 100000 in
set_option maxHeartbeats 4000000 in
theorem ok_X9_behindLetters {h0 : Hp} (n : Nat) (h : Hp) (x1 : Int32) (hn : 17179869185 ≤ n) (j : J h0 h) : Ok (F_X9_behindLetters n h x1) (fun q => q.2 = h ∧ True) := by
  unfold F_X9_behindLetters
  have f1 := rgT (x1)
  exact okW_X9_behindLetters_2 (h0 := h0) n h x1 x1 j   (by omega) (by omega)
set_option maxRecDepth 100000 in
set_option maxHeartbeats 4000000 in
theorem ok_X9_withLetter {h0 : Hp} (n : Nat) (h : Hp) (x1 : Int64) (x2 : Int32) (hn : 1 ≤ n) (j : J h0 h) : Ok (F_X9_withLetter n h x1 x2) (fun q => q.2 = h ∧ True) := by
  unfold F_X9_withLetter
  exact Ok.ret ⟨rfl, trivial⟩
set_option maxRecDepth 100000 in
set_option maxHeartbeats 4000000 in
theorem okW_X9_lettersOf_5 {h0 : Hp} : ∀ (n : Nat), (∀ (h : Hp) (l1 : Int32) (l2 : Int32) (l3 : Int64) (l5 : Int32), J h0 h → (1 : Int) < n → (1 : Int) + (l2.toInt - l5.toInt) < n → Ok (W_X9_lettersOf n 5 h l1 l2 l3 l5) (fun q => q.2 = h ∧ True)) := by
  intro n
  induction n with
  | zero => intro h l1 l2 l3 l5 j hB hM; exfalso; omega
  | succ n ih =>
    intro h l1 l2 l3 l5 j hB hM
    rw [u_X9_lettersOf]
    refine Ok.pos rfl ?_
    have f1 := rgT (l2)
    have f2 := rgT (l5)
    refine Ok.le (fun c3 => ?_) (fun c3 => ?_)
    · exact Ok.ret ⟨rfl, trivial⟩
    · refine Ok.bind (ok_X9_signAt (h0 := h0) n h l5 (by omega) j ) (fun q2 hq2 => ?_)
      obtain ⟨eq2, xq2⟩ := hq2
      rw [eq2]
      refine Ok.bind (ok_X9_withLetter (h0 := h0) n h l3 q2.1 (by omega) j ) (fun q4 hq4 => ?_)
      obtain ⟨eq4, xq4⟩ := hq4
      rw [eq4]
      have f4 := lit_1
      have f5 := adT (l5) (1)
      have f6 := rgT (l5 + 1)
      exact ih h l1 l2 q4.1 (l5 + 1) j   (by omega) (by omega)
set_option maxRecDepth 100000 in
set_option maxHeartbeats 4000000 in
theorem ok_X9_lettersOf {h0 : Hp} (n : Nat) (h : Hp) (x1 : Int32) (x2 : Int32) (hn : 17179869185 ≤ n) (j : J h0 h) : Ok (F_X9_lettersOf n h x1 x2) (fun q => q.2 = h ∧ True) := by
  unfold F_X9_lettersOf
  have f1 := rgT (x2)
  have f2 := rgT (x1)
  exact okW_X9_lettersOf_5 (h0 := h0) n h x1 x2 0 x1 j   (by omega) (by omega)
set_option maxRecDepth 100000 in
set_option maxHeartbeats 4000000 in
theorem okW_X9_kindOfLetters_2 {h0 : Hp} : ∀ (n : Nat), (∀ (h : Hp) (l1 : Int64) (l3 : Int32), J h0 h → 0 ≤ l3.toInt → (1 : Int) < n → (1 : Int) + (22 - l3.toInt) < n → Ok (W_X9_kindOfLetters n 2 h l1 l3) (fun q => q.2 = h ∧ True)) := by
  intro n
  induction n with
  | zero => intro h l1 l3 j i0 hB hM; exfalso; omega
  | succ n ih =>
    intro h l1 l3 j i0 hB hM
    rw [u_X9_kindOfLetters]
    refine Ok.pos rfl ?_
    have f1 := lit_22
    have f2 := rgT (l3)
    refine Ok.le (fun c3 => ?_) (fun c3 => ?_)
    · exact Ok.ret ⟨rfl, trivial⟩
    · refine Ok.chk (ixT (by omega) (by omega)) (fun c4 => ?_)
      have f5 := rgT (lg_cmp (hl h 19 (Int32.toNatClampNeg l3)) l1)
      have f6 := lit_0
      refine Ok.eq (fun c7 => ?_) (fun c7 => ?_)
      · exact Ok.ret ⟨rfl, trivial⟩
      · have f8 := lit_1
        have f9 := adT (l3) (1)
        have f10 := rgT (l3 + 1)
        exact ih h l1 (l3 + 1) j  (by omega) (by omega) (by omega)
set_option maxRecDepth 100000 in
set_option maxHeartbeats 4000000 in
theorem ok_X9_kindOfLetters {h0 : Hp} (n : Nat) (h : Hp) (x1 : Int64) (hn : 17179869185 ≤ n) (j : J h0 h) : Ok (F_X9_kindOfLetters n h x1) (fun q => q.2 = h ∧ True) := by
  unfold F_X9_kindOfLetters
  have f1 := lit_0
  exact okW_X9_kindOfLetters_2 (h0 := h0) n h x1 0 j  (by omega) (by omega) (by omega)
set_option maxRecDepth 100000 in
set_option maxHeartbeats 4000000 in
theorem ok_X9_keep {h0 : Hp} (n : Nat) (h : Hp) (x1 : Int32) (hn : 17179869185 ≤ n) (j : J h0 h) : Ok (F_X9_keep n h x1) (fun q => J h0 q.2 ∧ True) := by
  unfold F_X9_keep
  refine Ok.bind (ok_X9_signAt (h0 := h0) n h x1 (by omega) j ) (fun q1 hq1 => ?_)
  obtain ⟨eq1, xq1⟩ := hq1
  rw [eq1]
  refine Ok.bind (ok_X9_isLetter (h0 := h0) n h q1.1 (by omega) j ) (fun q3 hq3 => ?_)
  obtain ⟨eq3, xq3⟩ := hq3
  rw [eq3]
  have f1 := rgT (q3.1)
  have f2 := lit_0
  refine Ok.eq (fun c3 => ?_) (fun c3 => ?_)
  · refine Ok.bind (ok_X9_isDigit (h0 := h0) n h q1.1 (by omega) j ) (fun q6 hq6 => ?_)
    obtain ⟨eq6, xq6⟩ := hq6
    rw [eq6]
    have f4 := rgT (q6.1)
    refine Ok.eq (fun c5 => ?_) (fun c5 => ?_)
    · refine Ok.bind (ok_X9_isSign (h0 := h0) n h q1.1 (by omega) j ) (fun q9 hq9 => ?_)
      obtain ⟨eq9, xq9⟩ := hq9
      rw [eq9]
      have f6 := rgT (q9.1)
      refine Ok.eq (fun c7 => ?_) (fun c7 => ?_)
      · have f8 := lit_401
        have f9 := cR 18 5 0 401 (by decide) j
        have f10 := rgT (hi h 18 5)
        refine Ok.le (fun c11 => ?_) (fun c11 => ?_)
        · exact Ok.ret ⟨j, trivial⟩
        · refine Ok.chk (ixT (by omega) (by omega)) (fun c12 => ?_)
          generalize eg13 : wrI h 20 (Int32.toNatClampNeg (hi h 18 5)) (33 : Int32).toInt8.toInt32 = g13
          have jg13 : J h0 g13 := JwI eg13 j (ncO_nc (by decide))
          have f14 := congrArg Int32.toInt (hiA eg13 18 5 (by decide))
          have f15 := rgT (hi g13 18 5)
          refine Ok.chk (ixT (by omega) (by omega)) (fun c16 => ?_)
          generalize eg17 : wrI g13 21 (Int32.toNatClampNeg (hi g13 18 5)) (x1 : Int32).toInt16.toInt32 = g17
          have jg17 : J h0 g17 := JwI eg17 jg13 (ncO_nc (by decide))
          have f18 := congrArg Int32.toInt (hiA eg17 18 5 (by decide))
          have f19 := rgT (hi g17 18 5)
          refine Ok.chk (ixT (by omega) (by omega)) (fun c20 => ?_)
          generalize eg21 : wrL g17 22 (Int32.toNatClampNeg (hi g17 18 5)) 0 = g21
          have jg21 : J h0 g21 := JwL eg21 jg17 (by decide)
          generalize eg22 : wrI g21 18 5 ((hi g21 18 5) + 1) = g22
          have f23 := congrArg Int32.toInt (hiLL eg21 18 5)
          have f24 := rgT (hi g21 18 5)
          have f25 := lit_1
          have f26 := adT (hi g21 18 5) (1)
          have f27 := rgT ((hi g21 18 5) + 1)
          have jg22 : J h0 g22 := JwC 0 401 eg22 jg21 (by decide) ⟨by omega, by omega⟩
          exact Ok.ret ⟨jg22, trivial⟩
      · have f28 := lit_401
        have f29 := cR 18 5 0 401 (by decide) j
        have f30 := rgT (hi h 18 5)
        refine Ok.le (fun c31 => ?_) (fun c31 => ?_)
        · exact Ok.ret ⟨j, trivial⟩
        · refine Ok.chk (ixT (by omega) (by omega)) (fun c32 => ?_)
          generalize eg33 : wrI h 20 (Int32.toNatClampNeg (hi h 18 5)) (q1.1 : Int32).toInt8.toInt32 = g33
          have jg33 : J h0 g33 := JwI eg33 j (ncO_nc (by decide))
          have f34 := congrArg Int32.toInt (hiA eg33 18 5 (by decide))
          have f35 := rgT (hi g33 18 5)
          refine Ok.chk (ixT (by omega) (by omega)) (fun c36 => ?_)
          generalize eg37 : wrI g33 21 (Int32.toNatClampNeg (hi g33 18 5)) (x1 : Int32).toInt16.toInt32 = g37
          have jg37 : J h0 g37 := JwI eg37 jg33 (ncO_nc (by decide))
          have f38 := congrArg Int32.toInt (hiA eg37 18 5 (by decide))
          have f39 := rgT (hi g37 18 5)
          refine Ok.chk (ixT (by omega) (by omega)) (fun c40 => ?_)
          generalize eg41 : wrL g37 22 (Int32.toNatClampNeg (hi g37 18 5)) 0 = g41
          have jg41 : J h0 g41 := JwL eg41 jg37 (by decide)
          generalize eg42 : wrI g41 18 5 ((hi g41 18 5) + 1) = g42
          have f43 := congrArg Int32.toInt (hiLL eg41 18 5)
          have f44 := rgT (hi g41 18 5)
          have f45 := lit_1
          have f46 := adT (hi g41 18 5) (1)
          have f47 := rgT ((hi g41 18 5) + 1)
          have jg42 : J h0 g42 := JwC 0 401 eg42 jg41 (by decide) ⟨by omega, by omega⟩
          exact Ok.ret ⟨jg42, trivial⟩
    · refine Ok.bind (ok_X9_behindDigits (h0 := h0) n h x1 (by omega) j ) (fun q20 hq20 => ?_)
      obtain ⟨eq20, xq20⟩ := hq20
      rw [eq20]
      refine Ok.bind (ok_X9_numberOf (h0 := h0) n h x1 q20.1 (by omega) j ) (fun q22 hq22 => ?_)
      obtain ⟨eq22, xq22⟩ := hq22
      rw [eq22]
      have f48 := rgT (q20.1)
      have f49 := rgT (x1)
      have f50 := sbT (q20.1) (x1)
      have f51 := rgT (q20.1 - x1)
      have f52 := lit_4
      refine Ok.le (fun c53 => ?_) (fun c53 => ?_)
      · have f54 := lit_401
        have f55 := cR 18 5 0 401 (by decide) j
        have f56 := rgT (hi h 18 5)
        refine Ok.le (fun c57 => ?_) (fun c57 => ?_)
        · exact Ok.ret ⟨j, trivial⟩
        · refine Ok.chk (ixT (by omega) (by omega)) (fun c58 => ?_)
          generalize eg59 : wrI h 20 (Int32.toNatClampNeg (hi h 18 5)) (30 : Int32).toInt8.toInt32 = g59
          have jg59 : J h0 g59 := JwI eg59 j (ncO_nc (by decide))
          have f60 := congrArg Int32.toInt (hiA eg59 18 5 (by decide))
          have f61 := rgT (hi g59 18 5)
          refine Ok.chk (ixT (by omega) (by omega)) (fun c62 => ?_)
          generalize eg63 : wrI g59 21 (Int32.toNatClampNeg (hi g59 18 5)) (x1 : Int32).toInt16.toInt32 = g63
          have jg63 : J h0 g63 := JwI eg63 jg59 (ncO_nc (by decide))
          have f64 := congrArg Int32.toInt (hiA eg63 18 5 (by decide))
          have f65 := rgT (hi g63 18 5)
          refine Ok.chk (ixT (by omega) (by omega)) (fun c66 => ?_)
          generalize eg67 : wrL g63 22 (Int32.toNatClampNeg (hi g63 18 5)) (q22.1 : Int32).toInt64 = g67
          have jg67 : J h0 g67 := JwL eg67 jg63 (by decide)
          generalize eg68 : wrI g67 18 5 ((hi g67 18 5) + 1) = g68
          have f69 := congrArg Int32.toInt (hiLL eg67 18 5)
          have f70 := rgT (hi g67 18 5)
          have f71 := lit_1
          have f72 := adT (hi g67 18 5) (1)
          have f73 := rgT ((hi g67 18 5) + 1)
          have jg68 : J h0 g68 := JwC 0 401 eg68 jg67 (by decide) ⟨by omega, by omega⟩
          exact Ok.ret ⟨jg68, trivial⟩
      · have f74 := lit_401
        have f75 := cR 18 5 0 401 (by decide) j
        have f76 := rgT (hi h 18 5)
        refine Ok.le (fun c77 => ?_) (fun c77 => ?_)
        · exact Ok.ret ⟨j, trivial⟩
        · refine Ok.chk (ixT (by omega) (by omega)) (fun c78 => ?_)
          generalize eg79 : wrI h 20 (Int32.toNatClampNeg (hi h 18 5)) (33 : Int32).toInt8.toInt32 = g79
          have jg79 : J h0 g79 := JwI eg79 j (ncO_nc (by decide))
          have f80 := congrArg Int32.toInt (hiA eg79 18 5 (by decide))
          have f81 := rgT (hi g79 18 5)
          refine Ok.chk (ixT (by omega) (by omega)) (fun c82 => ?_)
          generalize eg83 : wrI g79 21 (Int32.toNatClampNeg (hi g79 18 5)) (x1 : Int32).toInt16.toInt32 = g83
          have jg83 : J h0 g83 := JwI eg83 jg79 (ncO_nc (by decide))
          have f84 := congrArg Int32.toInt (hiA eg83 18 5 (by decide))
          have f85 := rgT (hi g83 18 5)
          refine Ok.chk (ixT (by omega) (by omega)) (fun c86 => ?_)
          generalize eg87 : wrL g83 22 (Int32.toNatClampNeg (hi g83 18 5)) (q22.1 : Int32).toInt64 = g87
          have jg87 : J h0 g87 := JwL eg87 jg83 (by decide)
          generalize eg88 : wrI g87 18 5 ((hi g87 18 5) + 1) = g88
          have f89 := congrArg Int32.toInt (hiLL eg87 18 5)
          have f90 := rgT (hi g87 18 5)
          have f91 := lit_1
          have f92 := adT (hi g87 18 5) (1)
          have f93 := rgT ((hi g87 18 5) + 1)
          have jg88 : J h0 g88 := JwC 0 401 eg88 jg87 (by decide) ⟨by omega, by omega⟩
          exact Ok.ret ⟨jg88, trivial⟩
  · refine Ok.bind (ok_X9_behindLetters (h0 := h0) n h x1 (by omega) j ) (fun q33 hq33 => ?_)
    obtain ⟨eq33, xq33⟩ := hq33
    rw [eq33]
    refine Ok.bind (ok_X9_lettersOf (h0 := h0) n h x1 q33.1 (by omega) j ) (fun q35 hq35 => ?_)
    obtain ⟨eq35, xq35⟩ := hq35
    rw [eq35]
    have f94 := rgT (q33.1)
    have f95 := rgT (x1)
    have f96 := sbT (q33.1) (x1)
    have f97 := rgT (q33.1 - x1)
    have f98 := lit_8
    refine Ok.le (fun c99 => ?_) (fun c99 => ?_)
    · refine Ok.bind (ok_X9_kindOfLetters (h0 := h0) n h q35.1 (by omega) j ) (fun q38 hq38 => ?_)
      obtain ⟨eq38, xq38⟩ := hq38
      rw [eq38]
      have f100 := lit_401
      have f101 := cR 18 5 0 401 (by decide) j
      have f102 := rgT (hi h 18 5)
      refine Ok.le (fun c103 => ?_) (fun c103 => ?_)
      · exact Ok.ret ⟨j, trivial⟩
      · refine Ok.chk (ixT (by omega) (by omega)) (fun c104 => ?_)
        generalize eg105 : wrI h 20 (Int32.toNatClampNeg (hi h 18 5)) (q38.1 : Int32).toInt8.toInt32 = g105
        have jg105 : J h0 g105 := JwI eg105 j (ncO_nc (by decide))
        have f106 := congrArg Int32.toInt (hiA eg105 18 5 (by decide))
        have f107 := rgT (hi g105 18 5)
        refine Ok.chk (ixT (by omega) (by omega)) (fun c108 => ?_)
        generalize eg109 : wrI g105 21 (Int32.toNatClampNeg (hi g105 18 5)) (x1 : Int32).toInt16.toInt32 = g109
        have jg109 : J h0 g109 := JwI eg109 jg105 (ncO_nc (by decide))
        have f110 := congrArg Int32.toInt (hiA eg109 18 5 (by decide))
        have f111 := rgT (hi g109 18 5)
        refine Ok.chk (ixT (by omega) (by omega)) (fun c112 => ?_)
        generalize eg113 : wrL g109 22 (Int32.toNatClampNeg (hi g109 18 5)) q35.1 = g113
        have jg113 : J h0 g113 := JwL eg113 jg109 (by decide)
        generalize eg114 : wrI g113 18 5 ((hi g113 18 5) + 1) = g114
        have f115 := congrArg Int32.toInt (hiLL eg113 18 5)
        have f116 := rgT (hi g113 18 5)
        have f117 := lit_1
        have f118 := adT (hi g113 18 5) (1)
        have f119 := rgT ((hi g113 18 5) + 1)
        have jg114 : J h0 g114 := JwC 0 401 eg114 jg113 (by decide) ⟨by omega, by omega⟩
        exact Ok.ret ⟨jg114, trivial⟩
    · have f120 := lit_401
      have f121 := cR 18 5 0 401 (by decide) j
      have f122 := rgT (hi h 18 5)
      refine Ok.le (fun c123 => ?_) (fun c123 => ?_)
      · exact Ok.ret ⟨j, trivial⟩
      · refine Ok.chk (ixT (by omega) (by omega)) (fun c124 => ?_)
        generalize eg125 : wrI h 20 (Int32.toNatClampNeg (hi h 18 5)) (33 : Int32).toInt8.toInt32 = g125
        have jg125 : J h0 g125 := JwI eg125 j (ncO_nc (by decide))
        have f126 := congrArg Int32.toInt (hiA eg125 18 5 (by decide))
        have f127 := rgT (hi g125 18 5)
        refine Ok.chk (ixT (by omega) (by omega)) (fun c128 => ?_)
        generalize eg129 : wrI g125 21 (Int32.toNatClampNeg (hi g125 18 5)) (x1 : Int32).toInt16.toInt32 = g129
        have jg129 : J h0 g129 := JwI eg129 jg125 (ncO_nc (by decide))
        have f130 := congrArg Int32.toInt (hiA eg129 18 5 (by decide))
        have f131 := rgT (hi g129 18 5)
        refine Ok.chk (ixT (by omega) (by omega)) (fun c132 => ?_)
        generalize eg133 : wrL g129 22 (Int32.toNatClampNeg (hi g129 18 5)) q35.1 = g133
        have jg133 : J h0 g133 := JwL eg133 jg129 (by decide)
        generalize eg134 : wrI g133 18 5 ((hi g133 18 5) + 1) = g134
        have f135 := congrArg Int32.toInt (hiLL eg133 18 5)
        have f136 := rgT (hi g133 18 5)
        have f137 := lit_1
        have f138 := adT (hi g133 18 5) (1)
        have f139 := rgT ((hi g133 18 5) + 1)
        have jg134 : J h0 g134 := JwC 0 401 eg134 jg133 (by decide) ⟨by omega, by omega⟩
        exact Ok.ret ⟨jg134, trivial⟩
set_option maxRecDepth 100000 in
set_option maxHeartbeats 4000000 in
theorem okW_X9_scan_30 {h0 : Hp} : ∀ (n : Nat), (∀ (h : Hp) (l1 : Int32) (l2 : Int32) (l3 : Int32), J h0 h → (17179869185 : Int) < n → (17179869185 : Int) + (401 - l3.toInt) < n → Ok (W_X9_scan n 30 h l1 l2 l3) (fun q => J h0 q ∧ True)) := by
  intro n
  induction n with
  | zero => intro h l1 l2 l3 j hB hM; exfalso; omega
  | succ n ih =>
    intro h l1 l2 l3 j hB hM
    rw [u_X9_scan]
    refine Ok.pos rfl ?_
    have f1 := lit_401
    have f2 := rgT (l3)
    refine Ok.le (fun c3 => ?_) (fun c3 => ?_)
    · exact Ok.ret ⟨j, trivial⟩
    · have f4 := cR 18 6 0 2000 (by decide) j
      have f5 := rgT (hi h 18 6)
      have f6 := rgT (l2)
      refine Ok.le (fun c7 => ?_) (fun c7 => ?_)
      · exact Ok.ret ⟨j, trivial⟩
      · refine Ok.bind (ok_X9_keep (h0 := h0) n h l2 (by omega) j ) (fun q3 hq3 => ?_)
        obtain ⟨jq3, xq3⟩ := hq3
        refine Ok.bind (ok_X9_behindBlanks (h0 := h0) n q3.2 q3.1 (by omega) jq3 ) (fun q5 hq5 => ?_)
        obtain ⟨eq5, xq5⟩ := hq5
        rw [eq5]
        have f8 := lit_1
        have f9 := adT (l3) (1)
        have f10 := rgT (l3 + 1)
        exact ih q3.2 l1 q5.1 (l3 + 1) jq3   (by omega) (by omega)
set_option maxRecDepth 100000 in
set_option maxHeartbeats 4000000 in
theorem ok_X9_scan {h0 : Hp} (n : Nat) (h : Hp) (x1 : Int32) (hn : 34359738369 ≤ n) (j : J h0 h) : Ok (F_X9_scan n h x1) (fun q => J h0 q ∧ True) := by
  unfold F_X9_scan
  generalize eg1 : wrI h 18 6 (if 0 < (if 2000 < x1 then 2000 else x1) then (if 2000 < x1 then 2000 else x1) else 0) = g1
  have f2 := rgT (if 0 < (if 2000 < x1 then 2000 else x1) then (if 2000 < x1 then 2000 else x1) else 0)
  have jg1 : J h0 g1 := JwC 0 2000 eg1 j (by decide) (clampT (N := 2000) (by decide) x1)
  generalize eg3 : wrI g1 18 5 0 = g3
  have f4 := lit_0
  have jg3 : J h0 g3 := JwC 0 401 eg3 jg1 (by decide) ⟨by omega, by omega⟩
  refine Ok.bind (ok_X9_behindBlanks (h0 := h0) n g3 0 (by omega) jg3 ) (fun q7 hq7 => ?_)
  obtain ⟨eq7, xq7⟩ := hq7
  rw [eq7]
  exact okW_X9_scan_30 (h0 := h0) n g3 x1 q7.1 0 jg3   (by omega) (by omega)
set_option maxRecDepth 100000 in
set_option maxHeartbeats 4000000 in
theorem ok_X7_cellOf {h0 : Hp} (n : Nat) (h : Hp) (x1 : Int32) (hn : 1 ≤ n) (j : J h0 h) : Ok (F_X7_cellOf n h x1) (fun q => q.2 = h ∧ True) := by
  unfold F_X7_cellOf
  exact Ok.ret ⟨rfl, trivial⟩
set_option maxRecDepth 100000 in
set_option maxHeartbeats 4000000 in
theorem ok_X7_onLawn {h0 : Hp} (n : Nat) (h : Hp) (x1 : Int32) (hn : 1 ≤ n) (j : J h0 h) : Ok (F_X7_onLawn n h x1) (fun q => q.2 = h ∧ True) := by
  unfold F_X7_onLawn
  have f1 := rgT (hi h 4 0)
  have f2 := rgT (x1 - x1 / 5 * 5)
  refine Ok.le (fun c3 => ?_) (fun c3 => ?_)
  · exact Ok.ret ⟨rfl, trivial⟩
  · have f4 := rgT (hi h 4 1)
    have f5 := rgT (x1 / 5)
    refine Ok.le (fun c6 => ?_) (fun c6 => ?_)
    · exact Ok.ret ⟨rfl, trivial⟩
    · exact Ok.ret ⟨rfl, trivial⟩
set_option maxRecDepth 100000 in
set_option maxHeartbeats 4000000 in
theorem ok_X7_blame {h0 : Hp} (n : Nat) (h : Hp) (x1 : Int32) (x2 : Int32) (hn : 1 ≤ n) (j : J h0 h) : Ok (F_X7_blame n h x1 x2) (fun q => J h0 q ∧ (hi q 3 2).toInt = (hi h 3 2).toInt) := by
  unfold F_X7_blame
  have f1 := rgT (hi h 2 6)
  have f2 := lit_0
  refine Ok.eq (fun c3 => ?_) (fun c3 => ?_)
  · generalize eg4 : wrI h 2 6 x1 = g4
    have jg4 : J h0 g4 := JwI eg4 j (by decide)
    generalize eg5 : wrI g4 2 7 x2 = g5
    have jg5 : J h0 g5 := JwI eg5 jg4 (by decide)
    have f6 := congrArg Int32.toInt (hiA eg5 3 2 (by decide))
    have f7 := congrArg Int32.toInt (hiA eg4 3 2 (by decide))
    have f8 := cR 3 2 0 5 (by decide) j
    refine Ok.ret ⟨jg5, ?_⟩
    show (hi g5 3 2).toInt = (hi h 3 2).toInt
    omega
  · have f9 := cR 3 2 0 5 (by decide) j
    refine Ok.ret ⟨j, ?_⟩
    show (hi h 3 2).toInt = (hi h 3 2).toInt
    omega
set_option maxRecDepth 100000 in
set_option maxHeartbeats 4000000 in
theorem okW_X7_layOut_128 {h0 : Hp} : ∀ (n : Nat), (∀ (h : Hp) (l1 : Int32) (l2 : Int32), J h0 h → 0 ≤ l2.toInt → (1 : Int) < n → (1 : Int) + (5 - l2.toInt) < n → Ok (W_X7_layOut n 128 h l1 l2) (fun q => J h0 q ∧ True)) := by
  intro n
  induction n with
  | zero => intro h l1 l2 j i0 hB hM; exfalso; omega
  | succ n ih =>
    intro h l1 l2 j i0 hB hM
    rw [u_X7_layOut]
    refine Ok.neg (by decide) ?_
    refine Ok.pos rfl ?_
    have f1 := cR 3 2 0 5 (by decide) j
    have f2 := rgT (hi h 3 2)
    have f3 := rgT (l2)
    refine Ok.le (fun c4 => ?_) (fun c4 => ?_)
    · exact Ok.ret ⟨j, trivial⟩
    · have f5 := lit_5
      refine Ok.le (fun c6 => ?_) (fun c6 => ?_)
      · exact Ok.ret ⟨j, trivial⟩
      · refine Ok.chk (ixT (by omega) (by omega)) (fun c7 => ?_)
        refine Ok.bind (ok_X7_onLawn (h0 := h0) n h (hi h 15 (Int32.toNatClampNeg l2)) (by omega) j ) (fun q318 hq318 => ?_)
        obtain ⟨eq318, xq318⟩ := hq318
        rw [eq318]
        have f8 := rgT (q318.1)
        have f9 := lit_0
        refine Ok.eq (fun c10 => ?_) (fun c10 => ?_)
        · refine Ok.bind (ok_X7_blame (h0 := h0) n h 6 l1 (by omega) j ) (fun q321 hq321 => ?_)
          obtain ⟨jq321, xq321⟩ := hq321
          refine Ok.bind (ok_X7_cellOf (h0 := h0) n q321 (hi h 15 (Int32.toNatClampNeg l2)) (by omega) jq321 ) (fun q323 hq323 => ?_)
          obtain ⟨eq323, xq323⟩ := hq323
          rw [eq323]
          refine Ok.pos c7 ?_
          generalize eg11 : wrI q321 12 (Int32.toNatClampNeg l2) q323.1 = g11
          have jg11 : J h0 g11 := JwI eg11 jq321 (ncO_nc (by decide))
          have f12 := lit_1
          have f13 := adT (l2) (1)
          have f14 := rgT (l2 + 1)
          exact ih g11 l1 (l2 + 1) jg11  (by omega) (by omega) (by omega)
        · have f15 := and_rg (((((hi h 2 12) : Int32).toUInt32 >>> (((hi h 15 (Int32.toNatClampNeg l2)) : Int32).toUInt32 &&& Int32.toUInt32 31)).toInt32) : Int32) (1 : Int32) 1 lit_1 (by decide)
          refine Ok.eq (fun c16 => ?_) (fun c16 => ?_)
          · refine Ok.bind (ok_X7_cellOf (h0 := h0) n h (hi h 15 (Int32.toNatClampNeg l2)) (by omega) j ) (fun q327 hq327 => ?_)
            obtain ⟨eq327, xq327⟩ := hq327
            rw [eq327]
            refine Ok.pos c7 ?_
            generalize eg17 : wrI h 12 (Int32.toNatClampNeg l2) q327.1 = g17
            have jg17 : J h0 g17 := JwI eg17 j (ncO_nc (by decide))
            have f18 := lit_1
            have f19 := adT (l2) (1)
            have f20 := rgT (l2 + 1)
            exact ih g17 l1 (l2 + 1) jg17  (by omega) (by omega) (by omega)
          · refine Ok.bind (ok_X7_blame (h0 := h0) n h 6 l1 (by omega) j ) (fun q330 hq330 => ?_)
            obtain ⟨jq330, xq330⟩ := hq330
            refine Ok.bind (ok_X7_cellOf (h0 := h0) n q330 (hi h 15 (Int32.toNatClampNeg l2)) (by omega) jq330 ) (fun q332 hq332 => ?_)
            obtain ⟨eq332, xq332⟩ := hq332
            rw [eq332]
            refine Ok.pos c7 ?_
            generalize eg21 : wrI q330 12 (Int32.toNatClampNeg l2) q332.1 = g21
            have jg21 : J h0 g21 := JwI eg21 jq330 (ncO_nc (by decide))
            have f22 := lit_1
            have f23 := adT (l2) (1)
            have f24 := rgT (l2 + 1)
            exact ih g21 l1 (l2 + 1) jg21  (by omega) (by omega) (by omega)
set_option maxRecDepth 100000 in
set_option maxHeartbeats 4000000 in
theorem okW_X7_layOut_2 {h0 : Hp} : ∀ (n : Nat), (∀ (h : Hp) (l1 : Int32) (l2 : Int32), J h0 h → 0 ≤ l2.toInt → (17179869185 : Int) < n → (17179869185 : Int) + (25 - l2.toInt) < n → Ok (W_X7_layOut n 2 h l1 l2) (fun q => J h0 q ∧ True)) := by
  intro n
  induction n with
  | zero => intro h l1 l2 j i0 hB hM; exfalso; omega
  | succ n ih =>
    intro h l1 l2 j i0 hB hM
    rw [u_X7_layOut]
    refine Ok.pos rfl ?_
    have f1 := lit_25
    have f2 := rgT (l2)
    refine Ok.le (fun c3 => ?_) (fun c3 => ?_)
    · have f4 := lit_0
      exact okW_X7_layOut_128 (h0 := h0) n h l1 0 j  (by omega) (by omega) (by omega)
    · have f5 := and_rg (((((hi h 2 12) : Int32).toUInt32 >>> ((l2 : Int32).toUInt32 &&& Int32.toUInt32 31)).toInt32) : Int32) (1 : Int32) 1 lit_1 (by decide)
      have f6 := lit_0
      refine Ok.eq (fun c7 => ?_) (fun c7 => ?_)
      · refine Ok.chk (ixT (by omega) (by omega)) (fun c8 => ?_)
        have f9 := rgT (hi h 16 (Int32.toNatClampNeg l2))
        refine Ok.le (fun c10 => ?_) (fun c10 => ?_)
        · refine Ok.eq (fun c11 => ?_) (fun c11 => ?_)
          · refine Ok.eq (fun c12 => ?_) (fun c12 => ?_)
            · refine Ok.eq (fun c13 => ?_) (fun c13 => ?_)
              · refine Ok.eq (fun c14 => ?_) (fun c14 => ?_)
                · have f15 := lit_1
                  have f16 := adT (l2) (1)
                  have f17 := rgT (l2 + 1)
                  exact ih h l1 (l2 + 1) j  (by omega) (by omega) (by omega)
                · refine Ok.bind (ok_X7_cellOf (h0 := h0) n h l2 (by omega) j ) (fun q38 hq38 => ?_)
                  obtain ⟨eq38, xq38⟩ := hq38
                  rw [eq38]
                  refine Ok.pos c8 ?_
                  refine Ok.pos c8 ?_
                  refine Ok.bind (ok_X8_soundIn (h0 := h0) n h 10 q38.1 (hi h 16 (Int32.toNatClampNeg l2)) (hi h 17 (Int32.toNatClampNeg l2)) (by omega) j sc_10) (fun q42 hq42 => ?_)
                  obtain ⟨jq42, xq42⟩ := hq42
                  have f18 := lit_1
                  have f19 := adT (l2) (1)
                  have f20 := rgT (l2 + 1)
                  exact ih q42 l1 (l2 + 1) jq42  (by omega) (by omega) (by omega)
              · refine Ok.bind (ok_X7_cellOf (h0 := h0) n h l2 (by omega) j ) (fun q44 hq44 => ?_)
                obtain ⟨eq44, xq44⟩ := hq44
                rw [eq44]
                refine Ok.eq (fun c21 => ?_) (fun c21 => ?_)
                · generalize eg22 : wrI h 10 2 (((hi h 10 2) : Int32) ||| (((1 : Int32) <<< ((q44.1 : Int32) &&& 31)) : Int32)) = g22
                  have jg22 : J h0 g22 := JwI eg22 j (by decide)
                  have f23 := lit_1
                  have f24 := adT (l2) (1)
                  have f25 := rgT (l2 + 1)
                  exact ih g22 l1 (l2 + 1) jg22  (by omega) (by omega) (by omega)
                · generalize eg26 : wrI h 10 2 (((hi h 10 2) : Int32) ||| (((1 : Int32) <<< ((q44.1 : Int32) &&& 31)) : Int32)) = g26
                  have jg26 : J h0 g26 := JwI eg26 j (by decide)
                  refine Ok.bind (ok_X7_cellOf (h0 := h0) n g26 l2 (by omega) jg26 ) (fun q47 hq47 => ?_)
                  obtain ⟨eq47, xq47⟩ := hq47
                  rw [eq47]
                  refine Ok.pos c8 ?_
                  refine Ok.pos c8 ?_
                  refine Ok.bind (ok_X8_soundIn (h0 := h0) n g26 10 q47.1 (hi g26 16 (Int32.toNatClampNeg l2)) (hi g26 17 (Int32.toNatClampNeg l2)) (by omega) jg26 sc_10) (fun q51 hq51 => ?_)
                  obtain ⟨jq51, xq51⟩ := hq51
                  have f27 := lit_1
                  have f28 := adT (l2) (1)
                  have f29 := rgT (l2 + 1)
                  exact ih q51 l1 (l2 + 1) jq51  (by omega) (by omega) (by omega)
            · refine Ok.bind (ok_X7_onLawn (h0 := h0) n h l2 (by omega) j ) (fun q53 hq53 => ?_)
              obtain ⟨eq53, xq53⟩ := hq53
              rw [eq53]
              have f30 := rgT (q53.1)
              refine Ok.eq (fun c31 => ?_) (fun c31 => ?_)
              · refine Ok.bind (ok_X7_blame (h0 := h0) n h 6 l1 (by omega) j ) (fun q73 hq73 => ?_)
                obtain ⟨jq73, xq73⟩ := hq73
                refine Ok.eq (fun c32 => ?_) (fun c32 => ?_)
                · have f33 := lit_1
                  have f34 := adT (l2) (1)
                  have f35 := rgT (l2 + 1)
                  exact ih q73 l1 (l2 + 1) jq73  (by omega) (by omega) (by omega)
                · refine Ok.bind (ok_X7_cellOf (h0 := h0) n q73 l2 (by omega) jq73 ) (fun q76 hq76 => ?_)
                  obtain ⟨eq76, xq76⟩ := hq76
                  rw [eq76]
                  refine Ok.pos c8 ?_
                  refine Ok.pos c8 ?_
                  refine Ok.bind (ok_X8_soundIn (h0 := h0) n q73 10 q76.1 (hi q73 16 (Int32.toNatClampNeg l2)) (hi q73 17 (Int32.toNatClampNeg l2)) (by omega) jq73 sc_10) (fun q80 hq80 => ?_)
                  obtain ⟨jq80, xq80⟩ := hq80
                  have f36 := lit_1
                  have f37 := adT (l2) (1)
                  have f38 := rgT (l2 + 1)
                  exact ih q80 l1 (l2 + 1) jq80  (by omega) (by omega) (by omega)
              · refine Ok.eq (fun c39 => ?_) (fun c39 => ?_)
                · refine Ok.eq (fun c40 => ?_) (fun c40 => ?_)
                  · have f41 := lit_1
                    have f42 := adT (l2) (1)
                    have f43 := rgT (l2 + 1)
                    exact ih h l1 (l2 + 1) j  (by omega) (by omega) (by omega)
                  · refine Ok.bind (ok_X7_cellOf (h0 := h0) n h l2 (by omega) j ) (fun q58 hq58 => ?_)
                    obtain ⟨eq58, xq58⟩ := hq58
                    rw [eq58]
                    refine Ok.pos c8 ?_
                    refine Ok.pos c8 ?_
                    refine Ok.bind (ok_X8_soundIn (h0 := h0) n h 10 q58.1 (hi h 16 (Int32.toNatClampNeg l2)) (hi h 17 (Int32.toNatClampNeg l2)) (by omega) j sc_10) (fun q62 hq62 => ?_)
                    obtain ⟨jq62, xq62⟩ := hq62
                    have f44 := lit_1
                    have f45 := adT (l2) (1)
                    have f46 := rgT (l2 + 1)
                    exact ih q62 l1 (l2 + 1) jq62  (by omega) (by omega) (by omega)
                · refine Ok.bind (ok_X7_cellOf (h0 := h0) n h l2 (by omega) j ) (fun q64 hq64 => ?_)
                  obtain ⟨eq64, xq64⟩ := hq64
                  rw [eq64]
                  refine Ok.eq (fun c47 => ?_) (fun c47 => ?_)
                  · generalize eg48 : wrI h 10 2 (((hi h 10 2) : Int32) ||| (((1 : Int32) <<< ((q64.1 : Int32) &&& 31)) : Int32)) = g48
                    have jg48 : J h0 g48 := JwI eg48 j (by decide)
                    have f49 := lit_1
                    have f50 := adT (l2) (1)
                    have f51 := rgT (l2 + 1)
                    exact ih g48 l1 (l2 + 1) jg48  (by omega) (by omega) (by omega)
                  · generalize eg52 : wrI h 10 2 (((hi h 10 2) : Int32) ||| (((1 : Int32) <<< ((q64.1 : Int32) &&& 31)) : Int32)) = g52
                    have jg52 : J h0 g52 := JwI eg52 j (by decide)
                    refine Ok.bind (ok_X7_cellOf (h0 := h0) n g52 l2 (by omega) jg52 ) (fun q67 hq67 => ?_)
                    obtain ⟨eq67, xq67⟩ := hq67
                    rw [eq67]
                    refine Ok.pos c8 ?_
                    refine Ok.pos c8 ?_
                    refine Ok.bind (ok_X8_soundIn (h0 := h0) n g52 10 q67.1 (hi g52 16 (Int32.toNatClampNeg l2)) (hi g52 17 (Int32.toNatClampNeg l2)) (by omega) jg52 sc_10) (fun q71 hq71 => ?_)
                    obtain ⟨jq71, xq71⟩ := hq71
                    have f53 := lit_1
                    have f54 := adT (l2) (1)
                    have f55 := rgT (l2 + 1)
                    exact ih q71 l1 (l2 + 1) jq71  (by omega) (by omega) (by omega)
          · refine Ok.bind (ok_X7_onLawn (h0 := h0) n h l2 (by omega) j ) (fun q6 hq6 => ?_)
            obtain ⟨eq6, xq6⟩ := hq6
            rw [eq6]
            have f56 := rgT (q6.1)
            refine Ok.eq (fun c57 => ?_) (fun c57 => ?_)
            · refine Ok.bind (ok_X7_blame (h0 := h0) n h 6 l1 (by omega) j ) (fun q26 hq26 => ?_)
              obtain ⟨jq26, xq26⟩ := hq26
              refine Ok.eq (fun c58 => ?_) (fun c58 => ?_)
              · have f59 := lit_1
                have f60 := adT (l2) (1)
                have f61 := rgT (l2 + 1)
                exact ih q26 l1 (l2 + 1) jq26  (by omega) (by omega) (by omega)
              · refine Ok.bind (ok_X7_cellOf (h0 := h0) n q26 l2 (by omega) jq26 ) (fun q29 hq29 => ?_)
                obtain ⟨eq29, xq29⟩ := hq29
                rw [eq29]
                refine Ok.pos c8 ?_
                refine Ok.pos c8 ?_
                refine Ok.bind (ok_X8_soundIn (h0 := h0) n q26 10 q29.1 (hi q26 16 (Int32.toNatClampNeg l2)) (hi q26 17 (Int32.toNatClampNeg l2)) (by omega) jq26 sc_10) (fun q33 hq33 => ?_)
                obtain ⟨jq33, xq33⟩ := hq33
                have f62 := lit_1
                have f63 := adT (l2) (1)
                have f64 := rgT (l2 + 1)
                exact ih q33 l1 (l2 + 1) jq33  (by omega) (by omega) (by omega)
            · refine Ok.eq (fun c65 => ?_) (fun c65 => ?_)
              · refine Ok.eq (fun c66 => ?_) (fun c66 => ?_)
                · have f67 := lit_1
                  have f68 := adT (l2) (1)
                  have f69 := rgT (l2 + 1)
                  exact ih h l1 (l2 + 1) j  (by omega) (by omega) (by omega)
                · refine Ok.bind (ok_X7_cellOf (h0 := h0) n h l2 (by omega) j ) (fun q11 hq11 => ?_)
                  obtain ⟨eq11, xq11⟩ := hq11
                  rw [eq11]
                  refine Ok.pos c8 ?_
                  refine Ok.pos c8 ?_
                  refine Ok.bind (ok_X8_soundIn (h0 := h0) n h 10 q11.1 (hi h 16 (Int32.toNatClampNeg l2)) (hi h 17 (Int32.toNatClampNeg l2)) (by omega) j sc_10) (fun q15 hq15 => ?_)
                  obtain ⟨jq15, xq15⟩ := hq15
                  have f70 := lit_1
                  have f71 := adT (l2) (1)
                  have f72 := rgT (l2 + 1)
                  exact ih q15 l1 (l2 + 1) jq15  (by omega) (by omega) (by omega)
              · refine Ok.bind (ok_X7_cellOf (h0 := h0) n h l2 (by omega) j ) (fun q17 hq17 => ?_)
                obtain ⟨eq17, xq17⟩ := hq17
                rw [eq17]
                refine Ok.eq (fun c73 => ?_) (fun c73 => ?_)
                · generalize eg74 : wrI h 10 2 (((hi h 10 2) : Int32) ||| (((1 : Int32) <<< ((q17.1 : Int32) &&& 31)) : Int32)) = g74
                  have jg74 : J h0 g74 := JwI eg74 j (by decide)
                  have f75 := lit_1
                  have f76 := adT (l2) (1)
                  have f77 := rgT (l2 + 1)
                  exact ih g74 l1 (l2 + 1) jg74  (by omega) (by omega) (by omega)
                · generalize eg78 : wrI h 10 2 (((hi h 10 2) : Int32) ||| (((1 : Int32) <<< ((q17.1 : Int32) &&& 31)) : Int32)) = g78
                  have jg78 : J h0 g78 := JwI eg78 j (by decide)
                  refine Ok.bind (ok_X7_cellOf (h0 := h0) n g78 l2 (by omega) jg78 ) (fun q20 hq20 => ?_)
                  obtain ⟨eq20, xq20⟩ := hq20
                  rw [eq20]
                  refine Ok.pos c8 ?_
                  refine Ok.pos c8 ?_
                  refine Ok.bind (ok_X8_soundIn (h0 := h0) n g78 10 q20.1 (hi g78 16 (Int32.toNatClampNeg l2)) (hi g78 17 (Int32.toNatClampNeg l2)) (by omega) jg78 sc_10) (fun q24 hq24 => ?_)
                  obtain ⟨jq24, xq24⟩ := hq24
                  have f79 := lit_1
                  have f80 := adT (l2) (1)
                  have f81 := rgT (l2 + 1)
                  exact ih q24 l1 (l2 + 1) jq24  (by omega) (by omega) (by omega)
        · refine Ok.eq (fun c82 => ?_) (fun c82 => ?_)
          · have f83 := lit_1
            refine Ok.eq (fun c84 => ?_) (fun c84 => ?_)
            · refine Ok.eq (fun c85 => ?_) (fun c85 => ?_)
              · refine Ok.eq (fun c86 => ?_) (fun c86 => ?_)
                · have f87 := adT (l2) (1)
                  have f88 := rgT (l2 + 1)
                  exact ih h l1 (l2 + 1) j  (by omega) (by omega) (by omega)
                · refine Ok.bind (ok_X7_cellOf (h0 := h0) n h l2 (by omega) j ) (fun q115 hq115 => ?_)
                  obtain ⟨eq115, xq115⟩ := hq115
                  rw [eq115]
                  refine Ok.pos c8 ?_
                  refine Ok.pos c8 ?_
                  refine Ok.bind (ok_X8_soundIn (h0 := h0) n h 10 q115.1 (hi h 16 (Int32.toNatClampNeg l2)) (hi h 17 (Int32.toNatClampNeg l2)) (by omega) j sc_10) (fun q119 hq119 => ?_)
                  obtain ⟨jq119, xq119⟩ := hq119
                  have f89 := adT (l2) (1)
                  have f90 := rgT (l2 + 1)
                  exact ih q119 l1 (l2 + 1) jq119  (by omega) (by omega) (by omega)
              · refine Ok.bind (ok_X7_cellOf (h0 := h0) n h l2 (by omega) j ) (fun q121 hq121 => ?_)
                obtain ⟨eq121, xq121⟩ := hq121
                rw [eq121]
                refine Ok.eq (fun c91 => ?_) (fun c91 => ?_)
                · generalize eg92 : wrI h 10 2 (((hi h 10 2) : Int32) ||| (((1 : Int32) <<< ((q121.1 : Int32) &&& 31)) : Int32)) = g92
                  have jg92 : J h0 g92 := JwI eg92 j (by decide)
                  have f93 := adT (l2) (1)
                  have f94 := rgT (l2 + 1)
                  exact ih g92 l1 (l2 + 1) jg92  (by omega) (by omega) (by omega)
                · generalize eg95 : wrI h 10 2 (((hi h 10 2) : Int32) ||| (((1 : Int32) <<< ((q121.1 : Int32) &&& 31)) : Int32)) = g95
                  have jg95 : J h0 g95 := JwI eg95 j (by decide)
                  refine Ok.bind (ok_X7_cellOf (h0 := h0) n g95 l2 (by omega) jg95 ) (fun q124 hq124 => ?_)
                  obtain ⟨eq124, xq124⟩ := hq124
                  rw [eq124]
                  refine Ok.pos c8 ?_
                  refine Ok.pos c8 ?_
                  refine Ok.bind (ok_X8_soundIn (h0 := h0) n g95 10 q124.1 (hi g95 16 (Int32.toNatClampNeg l2)) (hi g95 17 (Int32.toNatClampNeg l2)) (by omega) jg95 sc_10) (fun q128 hq128 => ?_)
                  obtain ⟨jq128, xq128⟩ := hq128
                  have f96 := adT (l2) (1)
                  have f97 := rgT (l2 + 1)
                  exact ih q128 l1 (l2 + 1) jq128  (by omega) (by omega) (by omega)
            · refine Ok.bind (ok_X7_onLawn (h0 := h0) n h l2 (by omega) j ) (fun q130 hq130 => ?_)
              obtain ⟨eq130, xq130⟩ := hq130
              rw [eq130]
              have f98 := rgT (q130.1)
              refine Ok.eq (fun c99 => ?_) (fun c99 => ?_)
              · refine Ok.bind (ok_X7_blame (h0 := h0) n h 6 l1 (by omega) j ) (fun q150 hq150 => ?_)
                obtain ⟨jq150, xq150⟩ := hq150
                refine Ok.eq (fun c100 => ?_) (fun c100 => ?_)
                · have f101 := adT (l2) (1)
                  have f102 := rgT (l2 + 1)
                  exact ih q150 l1 (l2 + 1) jq150  (by omega) (by omega) (by omega)
                · refine Ok.bind (ok_X7_cellOf (h0 := h0) n q150 l2 (by omega) jq150 ) (fun q153 hq153 => ?_)
                  obtain ⟨eq153, xq153⟩ := hq153
                  rw [eq153]
                  refine Ok.pos c8 ?_
                  refine Ok.pos c8 ?_
                  refine Ok.bind (ok_X8_soundIn (h0 := h0) n q150 10 q153.1 (hi q150 16 (Int32.toNatClampNeg l2)) (hi q150 17 (Int32.toNatClampNeg l2)) (by omega) jq150 sc_10) (fun q157 hq157 => ?_)
                  obtain ⟨jq157, xq157⟩ := hq157
                  have f103 := adT (l2) (1)
                  have f104 := rgT (l2 + 1)
                  exact ih q157 l1 (l2 + 1) jq157  (by omega) (by omega) (by omega)
              · refine Ok.eq (fun c105 => ?_) (fun c105 => ?_)
                · refine Ok.eq (fun c106 => ?_) (fun c106 => ?_)
                  · have f107 := adT (l2) (1)
                    have f108 := rgT (l2 + 1)
                    exact ih h l1 (l2 + 1) j  (by omega) (by omega) (by omega)
                  · refine Ok.bind (ok_X7_cellOf (h0 := h0) n h l2 (by omega) j ) (fun q135 hq135 => ?_)
                    obtain ⟨eq135, xq135⟩ := hq135
                    rw [eq135]
                    refine Ok.pos c8 ?_
                    refine Ok.pos c8 ?_
                    refine Ok.bind (ok_X8_soundIn (h0 := h0) n h 10 q135.1 (hi h 16 (Int32.toNatClampNeg l2)) (hi h 17 (Int32.toNatClampNeg l2)) (by omega) j sc_10) (fun q139 hq139 => ?_)
                    obtain ⟨jq139, xq139⟩ := hq139
                    have f109 := adT (l2) (1)
                    have f110 := rgT (l2 + 1)
                    exact ih q139 l1 (l2 + 1) jq139  (by omega) (by omega) (by omega)
                · refine Ok.bind (ok_X7_cellOf (h0 := h0) n h l2 (by omega) j ) (fun q141 hq141 => ?_)
                  obtain ⟨eq141, xq141⟩ := hq141
                  rw [eq141]
                  refine Ok.eq (fun c111 => ?_) (fun c111 => ?_)
                  · generalize eg112 : wrI h 10 2 (((hi h 10 2) : Int32) ||| (((1 : Int32) <<< ((q141.1 : Int32) &&& 31)) : Int32)) = g112
                    have jg112 : J h0 g112 := JwI eg112 j (by decide)
                    have f113 := adT (l2) (1)
                    have f114 := rgT (l2 + 1)
                    exact ih g112 l1 (l2 + 1) jg112  (by omega) (by omega) (by omega)
                  · generalize eg115 : wrI h 10 2 (((hi h 10 2) : Int32) ||| (((1 : Int32) <<< ((q141.1 : Int32) &&& 31)) : Int32)) = g115
                    have jg115 : J h0 g115 := JwI eg115 j (by decide)
                    refine Ok.bind (ok_X7_cellOf (h0 := h0) n g115 l2 (by omega) jg115 ) (fun q144 hq144 => ?_)
                    obtain ⟨eq144, xq144⟩ := hq144
                    rw [eq144]
                    refine Ok.pos c8 ?_
                    refine Ok.pos c8 ?_
                    refine Ok.bind (ok_X8_soundIn (h0 := h0) n g115 10 q144.1 (hi g115 16 (Int32.toNatClampNeg l2)) (hi g115 17 (Int32.toNatClampNeg l2)) (by omega) jg115 sc_10) (fun q148 hq148 => ?_)
                    obtain ⟨jq148, xq148⟩ := hq148
                    have f116 := adT (l2) (1)
                    have f117 := rgT (l2 + 1)
                    exact ih q148 l1 (l2 + 1) jq148  (by omega) (by omega) (by omega)
          · refine Ok.bind (ok_X7_onLawn (h0 := h0) n h l2 (by omega) j ) (fun q83 hq83 => ?_)
            obtain ⟨eq83, xq83⟩ := hq83
            rw [eq83]
            have f118 := rgT (q83.1)
            refine Ok.eq (fun c119 => ?_) (fun c119 => ?_)
            · refine Ok.bind (ok_X7_blame (h0 := h0) n h 6 l1 (by omega) j ) (fun q103 hq103 => ?_)
              obtain ⟨jq103, xq103⟩ := hq103
              have f120 := lit_1
              refine Ok.eq (fun c121 => ?_) (fun c121 => ?_)
              · have f122 := adT (l2) (1)
                have f123 := rgT (l2 + 1)
                exact ih q103 l1 (l2 + 1) jq103  (by omega) (by omega) (by omega)
              · refine Ok.bind (ok_X7_cellOf (h0 := h0) n q103 l2 (by omega) jq103 ) (fun q106 hq106 => ?_)
                obtain ⟨eq106, xq106⟩ := hq106
                rw [eq106]
                refine Ok.pos c8 ?_
                refine Ok.pos c8 ?_
                refine Ok.bind (ok_X8_soundIn (h0 := h0) n q103 10 q106.1 (hi q103 16 (Int32.toNatClampNeg l2)) (hi q103 17 (Int32.toNatClampNeg l2)) (by omega) jq103 sc_10) (fun q110 hq110 => ?_)
                obtain ⟨jq110, xq110⟩ := hq110
                have f124 := adT (l2) (1)
                have f125 := rgT (l2 + 1)
                exact ih q110 l1 (l2 + 1) jq110  (by omega) (by omega) (by omega)
            · refine Ok.eq (fun c126 => ?_) (fun c126 => ?_)
              · have f127 := lit_1
                refine Ok.eq (fun c128 => ?_) (fun c128 => ?_)
                · have f129 := adT (l2) (1)
                  have f130 := rgT (l2 + 1)
                  exact ih h l1 (l2 + 1) j  (by omega) (by omega) (by omega)
                · refine Ok.bind (ok_X7_cellOf (h0 := h0) n h l2 (by omega) j ) (fun q88 hq88 => ?_)
                  obtain ⟨eq88, xq88⟩ := hq88
                  rw [eq88]
                  refine Ok.pos c8 ?_
                  refine Ok.pos c8 ?_
                  refine Ok.bind (ok_X8_soundIn (h0 := h0) n h 10 q88.1 (hi h 16 (Int32.toNatClampNeg l2)) (hi h 17 (Int32.toNatClampNeg l2)) (by omega) j sc_10) (fun q92 hq92 => ?_)
                  obtain ⟨jq92, xq92⟩ := hq92
                  have f131 := adT (l2) (1)
                  have f132 := rgT (l2 + 1)
                  exact ih q92 l1 (l2 + 1) jq92  (by omega) (by omega) (by omega)
              · refine Ok.bind (ok_X7_cellOf (h0 := h0) n h l2 (by omega) j ) (fun q94 hq94 => ?_)
                obtain ⟨eq94, xq94⟩ := hq94
                rw [eq94]
                have f133 := lit_1
                refine Ok.eq (fun c134 => ?_) (fun c134 => ?_)
                · generalize eg135 : wrI h 10 2 (((hi h 10 2) : Int32) ||| (((1 : Int32) <<< ((q94.1 : Int32) &&& 31)) : Int32)) = g135
                  have jg135 : J h0 g135 := JwI eg135 j (by decide)
                  have f136 := adT (l2) (1)
                  have f137 := rgT (l2 + 1)
                  exact ih g135 l1 (l2 + 1) jg135  (by omega) (by omega) (by omega)
                · generalize eg138 : wrI h 10 2 (((hi h 10 2) : Int32) ||| (((1 : Int32) <<< ((q94.1 : Int32) &&& 31)) : Int32)) = g138
                  have jg138 : J h0 g138 := JwI eg138 j (by decide)
                  refine Ok.bind (ok_X7_cellOf (h0 := h0) n g138 l2 (by omega) jg138 ) (fun q97 hq97 => ?_)
                  obtain ⟨eq97, xq97⟩ := hq97
                  rw [eq97]
                  refine Ok.pos c8 ?_
                  refine Ok.pos c8 ?_
                  refine Ok.bind (ok_X8_soundIn (h0 := h0) n g138 10 q97.1 (hi g138 16 (Int32.toNatClampNeg l2)) (hi g138 17 (Int32.toNatClampNeg l2)) (by omega) jg138 sc_10) (fun q101 hq101 => ?_)
                  obtain ⟨jq101, xq101⟩ := hq101
                  have f139 := adT (l2) (1)
                  have f140 := rgT (l2 + 1)
                  exact ih q101 l1 (l2 + 1) jq101  (by omega) (by omega) (by omega)
      · refine Ok.chk (ixT (by omega) (by omega)) (fun c141 => ?_)
        have f142 := rgT (hi h 16 (Int32.toNatClampNeg l2))
        refine Ok.le (fun c143 => ?_) (fun c143 => ?_)
        · have f144 := lit_1
          refine Ok.eq (fun c145 => ?_) (fun c145 => ?_)
          · refine Ok.eq (fun c146 => ?_) (fun c146 => ?_)
            · refine Ok.eq (fun c147 => ?_) (fun c147 => ?_)
              · refine Ok.eq (fun c148 => ?_) (fun c148 => ?_)
                · have f149 := adT (l2) (1)
                  have f150 := rgT (l2 + 1)
                  exact ih h l1 (l2 + 1) j  (by omega) (by omega) (by omega)
                · refine Ok.bind (ok_X7_cellOf (h0 := h0) n h l2 (by omega) j ) (fun q194 hq194 => ?_)
                  obtain ⟨eq194, xq194⟩ := hq194
                  rw [eq194]
                  refine Ok.pos c141 ?_
                  refine Ok.pos c141 ?_
                  refine Ok.bind (ok_X8_soundIn (h0 := h0) n h 10 q194.1 (hi h 16 (Int32.toNatClampNeg l2)) (hi h 17 (Int32.toNatClampNeg l2)) (by omega) j sc_10) (fun q198 hq198 => ?_)
                  obtain ⟨jq198, xq198⟩ := hq198
                  have f151 := adT (l2) (1)
                  have f152 := rgT (l2 + 1)
                  exact ih q198 l1 (l2 + 1) jq198  (by omega) (by omega) (by omega)
              · refine Ok.bind (ok_X7_cellOf (h0 := h0) n h l2 (by omega) j ) (fun q200 hq200 => ?_)
                obtain ⟨eq200, xq200⟩ := hq200
                rw [eq200]
                refine Ok.eq (fun c153 => ?_) (fun c153 => ?_)
                · generalize eg154 : wrI h 10 2 (((hi h 10 2) : Int32) ||| (((1 : Int32) <<< ((q200.1 : Int32) &&& 31)) : Int32)) = g154
                  have jg154 : J h0 g154 := JwI eg154 j (by decide)
                  have f155 := adT (l2) (1)
                  have f156 := rgT (l2 + 1)
                  exact ih g154 l1 (l2 + 1) jg154  (by omega) (by omega) (by omega)
                · generalize eg157 : wrI h 10 2 (((hi h 10 2) : Int32) ||| (((1 : Int32) <<< ((q200.1 : Int32) &&& 31)) : Int32)) = g157
                  have jg157 : J h0 g157 := JwI eg157 j (by decide)
                  refine Ok.bind (ok_X7_cellOf (h0 := h0) n g157 l2 (by omega) jg157 ) (fun q203 hq203 => ?_)
                  obtain ⟨eq203, xq203⟩ := hq203
                  rw [eq203]
                  refine Ok.pos c141 ?_
                  refine Ok.pos c141 ?_
                  refine Ok.bind (ok_X8_soundIn (h0 := h0) n g157 10 q203.1 (hi g157 16 (Int32.toNatClampNeg l2)) (hi g157 17 (Int32.toNatClampNeg l2)) (by omega) jg157 sc_10) (fun q207 hq207 => ?_)
                  obtain ⟨jq207, xq207⟩ := hq207
                  have f158 := adT (l2) (1)
                  have f159 := rgT (l2 + 1)
                  exact ih q207 l1 (l2 + 1) jq207  (by omega) (by omega) (by omega)
            · refine Ok.bind (ok_X7_onLawn (h0 := h0) n h l2 (by omega) j ) (fun q209 hq209 => ?_)
              obtain ⟨eq209, xq209⟩ := hq209
              rw [eq209]
              have f160 := rgT (q209.1)
              refine Ok.eq (fun c161 => ?_) (fun c161 => ?_)
              · refine Ok.bind (ok_X7_blame (h0 := h0) n h 6 l1 (by omega) j ) (fun q229 hq229 => ?_)
                obtain ⟨jq229, xq229⟩ := hq229
                refine Ok.eq (fun c162 => ?_) (fun c162 => ?_)
                · have f163 := adT (l2) (1)
                  have f164 := rgT (l2 + 1)
                  exact ih q229 l1 (l2 + 1) jq229  (by omega) (by omega) (by omega)
                · refine Ok.bind (ok_X7_cellOf (h0 := h0) n q229 l2 (by omega) jq229 ) (fun q232 hq232 => ?_)
                  obtain ⟨eq232, xq232⟩ := hq232
                  rw [eq232]
                  refine Ok.pos c141 ?_
                  refine Ok.pos c141 ?_
                  refine Ok.bind (ok_X8_soundIn (h0 := h0) n q229 10 q232.1 (hi q229 16 (Int32.toNatClampNeg l2)) (hi q229 17 (Int32.toNatClampNeg l2)) (by omega) jq229 sc_10) (fun q236 hq236 => ?_)
                  obtain ⟨jq236, xq236⟩ := hq236
                  have f165 := adT (l2) (1)
                  have f166 := rgT (l2 + 1)
                  exact ih q236 l1 (l2 + 1) jq236  (by omega) (by omega) (by omega)
              · refine Ok.eq (fun c167 => ?_) (fun c167 => ?_)
                · refine Ok.eq (fun c168 => ?_) (fun c168 => ?_)
                  · have f169 := adT (l2) (1)
                    have f170 := rgT (l2 + 1)
                    exact ih h l1 (l2 + 1) j  (by omega) (by omega) (by omega)
                  · refine Ok.bind (ok_X7_cellOf (h0 := h0) n h l2 (by omega) j ) (fun q214 hq214 => ?_)
                    obtain ⟨eq214, xq214⟩ := hq214
                    rw [eq214]
                    refine Ok.pos c141 ?_
                    refine Ok.pos c141 ?_
                    refine Ok.bind (ok_X8_soundIn (h0 := h0) n h 10 q214.1 (hi h 16 (Int32.toNatClampNeg l2)) (hi h 17 (Int32.toNatClampNeg l2)) (by omega) j sc_10) (fun q218 hq218 => ?_)
                    obtain ⟨jq218, xq218⟩ := hq218
                    have f171 := adT (l2) (1)
                    have f172 := rgT (l2 + 1)
                    exact ih q218 l1 (l2 + 1) jq218  (by omega) (by omega) (by omega)
                · refine Ok.bind (ok_X7_cellOf (h0 := h0) n h l2 (by omega) j ) (fun q220 hq220 => ?_)
                  obtain ⟨eq220, xq220⟩ := hq220
                  rw [eq220]
                  refine Ok.eq (fun c173 => ?_) (fun c173 => ?_)
                  · generalize eg174 : wrI h 10 2 (((hi h 10 2) : Int32) ||| (((1 : Int32) <<< ((q220.1 : Int32) &&& 31)) : Int32)) = g174
                    have jg174 : J h0 g174 := JwI eg174 j (by decide)
                    have f175 := adT (l2) (1)
                    have f176 := rgT (l2 + 1)
                    exact ih g174 l1 (l2 + 1) jg174  (by omega) (by omega) (by omega)
                  · generalize eg177 : wrI h 10 2 (((hi h 10 2) : Int32) ||| (((1 : Int32) <<< ((q220.1 : Int32) &&& 31)) : Int32)) = g177
                    have jg177 : J h0 g177 := JwI eg177 j (by decide)
                    refine Ok.bind (ok_X7_cellOf (h0 := h0) n g177 l2 (by omega) jg177 ) (fun q223 hq223 => ?_)
                    obtain ⟨eq223, xq223⟩ := hq223
                    rw [eq223]
                    refine Ok.pos c141 ?_
                    refine Ok.pos c141 ?_
                    refine Ok.bind (ok_X8_soundIn (h0 := h0) n g177 10 q223.1 (hi g177 16 (Int32.toNatClampNeg l2)) (hi g177 17 (Int32.toNatClampNeg l2)) (by omega) jg177 sc_10) (fun q227 hq227 => ?_)
                    obtain ⟨jq227, xq227⟩ := hq227
                    have f178 := adT (l2) (1)
                    have f179 := rgT (l2 + 1)
                    exact ih q227 l1 (l2 + 1) jq227  (by omega) (by omega) (by omega)
          · refine Ok.bind (ok_X7_onLawn (h0 := h0) n h l2 (by omega) j ) (fun q162 hq162 => ?_)
            obtain ⟨eq162, xq162⟩ := hq162
            rw [eq162]
            have f180 := rgT (q162.1)
            refine Ok.eq (fun c181 => ?_) (fun c181 => ?_)
            · refine Ok.bind (ok_X7_blame (h0 := h0) n h 6 l1 (by omega) j ) (fun q182 hq182 => ?_)
              obtain ⟨jq182, xq182⟩ := hq182
              refine Ok.eq (fun c182 => ?_) (fun c182 => ?_)
              · have f183 := adT (l2) (1)
                have f184 := rgT (l2 + 1)
                exact ih q182 l1 (l2 + 1) jq182  (by omega) (by omega) (by omega)
              · refine Ok.bind (ok_X7_cellOf (h0 := h0) n q182 l2 (by omega) jq182 ) (fun q185 hq185 => ?_)
                obtain ⟨eq185, xq185⟩ := hq185
                rw [eq185]
                refine Ok.pos c141 ?_
                refine Ok.pos c141 ?_
                refine Ok.bind (ok_X8_soundIn (h0 := h0) n q182 10 q185.1 (hi q182 16 (Int32.toNatClampNeg l2)) (hi q182 17 (Int32.toNatClampNeg l2)) (by omega) jq182 sc_10) (fun q189 hq189 => ?_)
                obtain ⟨jq189, xq189⟩ := hq189
                have f185 := adT (l2) (1)
                have f186 := rgT (l2 + 1)
                exact ih q189 l1 (l2 + 1) jq189  (by omega) (by omega) (by omega)
            · refine Ok.eq (fun c187 => ?_) (fun c187 => ?_)
              · refine Ok.eq (fun c188 => ?_) (fun c188 => ?_)
                · have f189 := adT (l2) (1)
                  have f190 := rgT (l2 + 1)
                  exact ih h l1 (l2 + 1) j  (by omega) (by omega) (by omega)
                · refine Ok.bind (ok_X7_cellOf (h0 := h0) n h l2 (by omega) j ) (fun q167 hq167 => ?_)
                  obtain ⟨eq167, xq167⟩ := hq167
                  rw [eq167]
                  refine Ok.pos c141 ?_
                  refine Ok.pos c141 ?_
                  refine Ok.bind (ok_X8_soundIn (h0 := h0) n h 10 q167.1 (hi h 16 (Int32.toNatClampNeg l2)) (hi h 17 (Int32.toNatClampNeg l2)) (by omega) j sc_10) (fun q171 hq171 => ?_)
                  obtain ⟨jq171, xq171⟩ := hq171
                  have f191 := adT (l2) (1)
                  have f192 := rgT (l2 + 1)
                  exact ih q171 l1 (l2 + 1) jq171  (by omega) (by omega) (by omega)
              · refine Ok.bind (ok_X7_cellOf (h0 := h0) n h l2 (by omega) j ) (fun q173 hq173 => ?_)
                obtain ⟨eq173, xq173⟩ := hq173
                rw [eq173]
                refine Ok.eq (fun c193 => ?_) (fun c193 => ?_)
                · generalize eg194 : wrI h 10 2 (((hi h 10 2) : Int32) ||| (((1 : Int32) <<< ((q173.1 : Int32) &&& 31)) : Int32)) = g194
                  have jg194 : J h0 g194 := JwI eg194 j (by decide)
                  have f195 := adT (l2) (1)
                  have f196 := rgT (l2 + 1)
                  exact ih g194 l1 (l2 + 1) jg194  (by omega) (by omega) (by omega)
                · generalize eg197 : wrI h 10 2 (((hi h 10 2) : Int32) ||| (((1 : Int32) <<< ((q173.1 : Int32) &&& 31)) : Int32)) = g197
                  have jg197 : J h0 g197 := JwI eg197 j (by decide)
                  refine Ok.bind (ok_X7_cellOf (h0 := h0) n g197 l2 (by omega) jg197 ) (fun q176 hq176 => ?_)
                  obtain ⟨eq176, xq176⟩ := hq176
                  rw [eq176]
                  refine Ok.pos c141 ?_
                  refine Ok.pos c141 ?_
                  refine Ok.bind (ok_X8_soundIn (h0 := h0) n g197 10 q176.1 (hi g197 16 (Int32.toNatClampNeg l2)) (hi g197 17 (Int32.toNatClampNeg l2)) (by omega) jg197 sc_10) (fun q180 hq180 => ?_)
                  obtain ⟨jq180, xq180⟩ := hq180
                  have f198 := adT (l2) (1)
                  have f199 := rgT (l2 + 1)
                  exact ih q180 l1 (l2 + 1) jq180  (by omega) (by omega) (by omega)
        · have f200 := lit_1
          refine Ok.eq (fun c201 => ?_) (fun c201 => ?_)
          · refine Ok.eq (fun c202 => ?_) (fun c202 => ?_)
            · refine Ok.eq (fun c203 => ?_) (fun c203 => ?_)
              · refine Ok.eq (fun c204 => ?_) (fun c204 => ?_)
                · have f205 := adT (l2) (1)
                  have f206 := rgT (l2 + 1)
                  exact ih h l1 (l2 + 1) j  (by omega) (by omega) (by omega)
                · refine Ok.bind (ok_X7_cellOf (h0 := h0) n h l2 (by omega) j ) (fun q271 hq271 => ?_)
                  obtain ⟨eq271, xq271⟩ := hq271
                  rw [eq271]
                  refine Ok.pos c141 ?_
                  refine Ok.pos c141 ?_
                  refine Ok.bind (ok_X8_soundIn (h0 := h0) n h 10 q271.1 (hi h 16 (Int32.toNatClampNeg l2)) (hi h 17 (Int32.toNatClampNeg l2)) (by omega) j sc_10) (fun q275 hq275 => ?_)
                  obtain ⟨jq275, xq275⟩ := hq275
                  have f207 := adT (l2) (1)
                  have f208 := rgT (l2 + 1)
                  exact ih q275 l1 (l2 + 1) jq275  (by omega) (by omega) (by omega)
              · refine Ok.bind (ok_X7_cellOf (h0 := h0) n h l2 (by omega) j ) (fun q277 hq277 => ?_)
                obtain ⟨eq277, xq277⟩ := hq277
                rw [eq277]
                refine Ok.eq (fun c209 => ?_) (fun c209 => ?_)
                · generalize eg210 : wrI h 10 2 (((hi h 10 2) : Int32) ||| (((1 : Int32) <<< ((q277.1 : Int32) &&& 31)) : Int32)) = g210
                  have jg210 : J h0 g210 := JwI eg210 j (by decide)
                  have f211 := adT (l2) (1)
                  have f212 := rgT (l2 + 1)
                  exact ih g210 l1 (l2 + 1) jg210  (by omega) (by omega) (by omega)
                · generalize eg213 : wrI h 10 2 (((hi h 10 2) : Int32) ||| (((1 : Int32) <<< ((q277.1 : Int32) &&& 31)) : Int32)) = g213
                  have jg213 : J h0 g213 := JwI eg213 j (by decide)
                  refine Ok.bind (ok_X7_cellOf (h0 := h0) n g213 l2 (by omega) jg213 ) (fun q280 hq280 => ?_)
                  obtain ⟨eq280, xq280⟩ := hq280
                  rw [eq280]
                  refine Ok.pos c141 ?_
                  refine Ok.pos c141 ?_
                  refine Ok.bind (ok_X8_soundIn (h0 := h0) n g213 10 q280.1 (hi g213 16 (Int32.toNatClampNeg l2)) (hi g213 17 (Int32.toNatClampNeg l2)) (by omega) jg213 sc_10) (fun q284 hq284 => ?_)
                  obtain ⟨jq284, xq284⟩ := hq284
                  have f214 := adT (l2) (1)
                  have f215 := rgT (l2 + 1)
                  exact ih q284 l1 (l2 + 1) jq284  (by omega) (by omega) (by omega)
            · refine Ok.bind (ok_X7_onLawn (h0 := h0) n h l2 (by omega) j ) (fun q286 hq286 => ?_)
              obtain ⟨eq286, xq286⟩ := hq286
              rw [eq286]
              have f216 := rgT (q286.1)
              refine Ok.eq (fun c217 => ?_) (fun c217 => ?_)
              · refine Ok.bind (ok_X7_blame (h0 := h0) n h 6 l1 (by omega) j ) (fun q306 hq306 => ?_)
                obtain ⟨jq306, xq306⟩ := hq306
                refine Ok.eq (fun c218 => ?_) (fun c218 => ?_)
                · have f219 := adT (l2) (1)
                  have f220 := rgT (l2 + 1)
                  exact ih q306 l1 (l2 + 1) jq306  (by omega) (by omega) (by omega)
                · refine Ok.bind (ok_X7_cellOf (h0 := h0) n q306 l2 (by omega) jq306 ) (fun q309 hq309 => ?_)
                  obtain ⟨eq309, xq309⟩ := hq309
                  rw [eq309]
                  refine Ok.pos c141 ?_
                  refine Ok.pos c141 ?_
                  refine Ok.bind (ok_X8_soundIn (h0 := h0) n q306 10 q309.1 (hi q306 16 (Int32.toNatClampNeg l2)) (hi q306 17 (Int32.toNatClampNeg l2)) (by omega) jq306 sc_10) (fun q313 hq313 => ?_)
                  obtain ⟨jq313, xq313⟩ := hq313
                  have f221 := adT (l2) (1)
                  have f222 := rgT (l2 + 1)
                  exact ih q313 l1 (l2 + 1) jq313  (by omega) (by omega) (by omega)
              · refine Ok.eq (fun c223 => ?_) (fun c223 => ?_)
                · refine Ok.eq (fun c224 => ?_) (fun c224 => ?_)
                  · have f225 := adT (l2) (1)
                    have f226 := rgT (l2 + 1)
                    exact ih h l1 (l2 + 1) j  (by omega) (by omega) (by omega)
                  · refine Ok.bind (ok_X7_cellOf (h0 := h0) n h l2 (by omega) j ) (fun q291 hq291 => ?_)
                    obtain ⟨eq291, xq291⟩ := hq291
                    rw [eq291]
                    refine Ok.pos c141 ?_
                    refine Ok.pos c141 ?_
                    refine Ok.bind (ok_X8_soundIn (h0 := h0) n h 10 q291.1 (hi h 16 (Int32.toNatClampNeg l2)) (hi h 17 (Int32.toNatClampNeg l2)) (by omega) j sc_10) (fun q295 hq295 => ?_)
                    obtain ⟨jq295, xq295⟩ := hq295
                    have f227 := adT (l2) (1)
                    have f228 := rgT (l2 + 1)
                    exact ih q295 l1 (l2 + 1) jq295  (by omega) (by omega) (by omega)
                · refine Ok.bind (ok_X7_cellOf (h0 := h0) n h l2 (by omega) j ) (fun q297 hq297 => ?_)
                  obtain ⟨eq297, xq297⟩ := hq297
                  rw [eq297]
                  refine Ok.eq (fun c229 => ?_) (fun c229 => ?_)
                  · generalize eg230 : wrI h 10 2 (((hi h 10 2) : Int32) ||| (((1 : Int32) <<< ((q297.1 : Int32) &&& 31)) : Int32)) = g230
                    have jg230 : J h0 g230 := JwI eg230 j (by decide)
                    have f231 := adT (l2) (1)
                    have f232 := rgT (l2 + 1)
                    exact ih g230 l1 (l2 + 1) jg230  (by omega) (by omega) (by omega)
                  · generalize eg233 : wrI h 10 2 (((hi h 10 2) : Int32) ||| (((1 : Int32) <<< ((q297.1 : Int32) &&& 31)) : Int32)) = g233
                    have jg233 : J h0 g233 := JwI eg233 j (by decide)
                    refine Ok.bind (ok_X7_cellOf (h0 := h0) n g233 l2 (by omega) jg233 ) (fun q300 hq300 => ?_)
                    obtain ⟨eq300, xq300⟩ := hq300
                    rw [eq300]
                    refine Ok.pos c141 ?_
                    refine Ok.pos c141 ?_
                    refine Ok.bind (ok_X8_soundIn (h0 := h0) n g233 10 q300.1 (hi g233 16 (Int32.toNatClampNeg l2)) (hi g233 17 (Int32.toNatClampNeg l2)) (by omega) jg233 sc_10) (fun q304 hq304 => ?_)
                    obtain ⟨jq304, xq304⟩ := hq304
                    have f234 := adT (l2) (1)
                    have f235 := rgT (l2 + 1)
                    exact ih q304 l1 (l2 + 1) jq304  (by omega) (by omega) (by omega)
          · refine Ok.bind (ok_X7_onLawn (h0 := h0) n h l2 (by omega) j ) (fun q239 hq239 => ?_)
            obtain ⟨eq239, xq239⟩ := hq239
            rw [eq239]
            have f236 := rgT (q239.1)
            refine Ok.eq (fun c237 => ?_) (fun c237 => ?_)
            · refine Ok.bind (ok_X7_blame (h0 := h0) n h 6 l1 (by omega) j ) (fun q259 hq259 => ?_)
              obtain ⟨jq259, xq259⟩ := hq259
              refine Ok.eq (fun c238 => ?_) (fun c238 => ?_)
              · have f239 := adT (l2) (1)
                have f240 := rgT (l2 + 1)
                exact ih q259 l1 (l2 + 1) jq259  (by omega) (by omega) (by omega)
              · refine Ok.bind (ok_X7_cellOf (h0 := h0) n q259 l2 (by omega) jq259 ) (fun q262 hq262 => ?_)
                obtain ⟨eq262, xq262⟩ := hq262
                rw [eq262]
                refine Ok.pos c141 ?_
                refine Ok.pos c141 ?_
                refine Ok.bind (ok_X8_soundIn (h0 := h0) n q259 10 q262.1 (hi q259 16 (Int32.toNatClampNeg l2)) (hi q259 17 (Int32.toNatClampNeg l2)) (by omega) jq259 sc_10) (fun q266 hq266 => ?_)
                obtain ⟨jq266, xq266⟩ := hq266
                have f241 := adT (l2) (1)
                have f242 := rgT (l2 + 1)
                exact ih q266 l1 (l2 + 1) jq266  (by omega) (by omega) (by omega)
            · refine Ok.eq (fun c243 => ?_) (fun c243 => ?_)
              · refine Ok.eq (fun c244 => ?_) (fun c244 => ?_)
                · have f245 := adT (l2) (1)
                  have f246 := rgT (l2 + 1)
                  exact ih h l1 (l2 + 1) j  (by omega) (by omega) (by omega)
                · refine Ok.bind (ok_X7_cellOf (h0 := h0) n h l2 (by omega) j ) (fun q244 hq244 => ?_)
                  obtain ⟨eq244, xq244⟩ := hq244
                  rw [eq244]
                  refine Ok.pos c141 ?_
                  refine Ok.pos c141 ?_
                  refine Ok.bind (ok_X8_soundIn (h0 := h0) n h 10 q244.1 (hi h 16 (Int32.toNatClampNeg l2)) (hi h 17 (Int32.toNatClampNeg l2)) (by omega) j sc_10) (fun q248 hq248 => ?_)
                  obtain ⟨jq248, xq248⟩ := hq248
                  have f247 := adT (l2) (1)
                  have f248 := rgT (l2 + 1)
                  exact ih q248 l1 (l2 + 1) jq248  (by omega) (by omega) (by omega)
              · refine Ok.bind (ok_X7_cellOf (h0 := h0) n h l2 (by omega) j ) (fun q250 hq250 => ?_)
                obtain ⟨eq250, xq250⟩ := hq250
                rw [eq250]
                refine Ok.eq (fun c249 => ?_) (fun c249 => ?_)
                · generalize eg250 : wrI h 10 2 (((hi h 10 2) : Int32) ||| (((1 : Int32) <<< ((q250.1 : Int32) &&& 31)) : Int32)) = g250
                  have jg250 : J h0 g250 := JwI eg250 j (by decide)
                  have f251 := adT (l2) (1)
                  have f252 := rgT (l2 + 1)
                  exact ih g250 l1 (l2 + 1) jg250  (by omega) (by omega) (by omega)
                · generalize eg253 : wrI h 10 2 (((hi h 10 2) : Int32) ||| (((1 : Int32) <<< ((q250.1 : Int32) &&& 31)) : Int32)) = g253
                  have jg253 : J h0 g253 := JwI eg253 j (by decide)
                  refine Ok.bind (ok_X7_cellOf (h0 := h0) n g253 l2 (by omega) jg253 ) (fun q253 hq253 => ?_)
                  obtain ⟨eq253, xq253⟩ := hq253
                  rw [eq253]
                  refine Ok.pos c141 ?_
                  refine Ok.pos c141 ?_
                  refine Ok.bind (ok_X8_soundIn (h0 := h0) n g253 10 q253.1 (hi g253 16 (Int32.toNatClampNeg l2)) (hi g253 17 (Int32.toNatClampNeg l2)) (by omega) jg253 sc_10) (fun q257 hq257 => ?_)
                  obtain ⟨jq257, xq257⟩ := hq257
                  have f254 := adT (l2) (1)
                  have f255 := rgT (l2 + 1)
                  exact ih q257 l1 (l2 + 1) jq257  (by omega) (by omega) (by omega)
