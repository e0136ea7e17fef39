/-! the class comes to its end, 14 -/
set_option maxRecDepth 100000 in
set_option maxHeartbeats 4000000 in
theorem sfW_X1_fewestRopes_14 {h0 : Hp} : ∀ (n : Nat), (∀ (h : Hp) (l1 : Int32) (l2 : Int32) (l3 : Int32) (l4 : Int32) (l5 : Int32), J h0 h → (34359738369 : Int) < n → (34359738369 : Int) + (4 - l5.toInt) < n → Ok (W_X1_fewestRopes n 14 h l1 l2 l3 l4 l5) (fun q => J h0 q.2 ∧ True)) := by
  intro n
  induction n with
  | zero => intro h l1 l2 l3 l4 l5 j hB hM; exfalso; omega
  | succ n ih =>
    intro h l1 l2 l3 l4 l5 j hB hM
    rw [u_X1_fewestRopes]
    refine Ok.pos rfl ?_
    have f1 := lit_4
    have f2 := rgT (l5)
    refine Ok.le (fun c3 => ?_) (fun c3 => ?_)
    · exact Ok.ret ⟨j, trivial⟩
    · have f4 := rgT (l3)
      refine Ok.bind (sf_X1_search (h0 := h0) n h l1 l2 l3 (by omega) j ) (fun q2 hq2 => ?_)
      obtain ⟨jq2, xq2⟩ := hq2
      have f5 := rgT (q2.1)
      have f6 := lit_0
      refine Ok.eq (fun c7 => ?_) (fun c7 => ?_)
      · exact Ok.ret ⟨jq2, trivial⟩
      · have f8 := rgT (l2)
        refine Ok.bind (sf_X1_layWay (h0 := h0) n q2.2 l2 l3 (by omega) jq2 (by omega) (by omega)) (fun q5 hq5 => ?_)
        obtain ⟨jq5, xq5⟩ := hq5
        have f9 := lit_1
        first | have f10 := adT (l5) (1) (by omega) (by omega) | have f10 := adT (l5) (1)
        have f11 := rgT (l5 + 1)
        exact ih q5 l1 l2 l3 (l4 + 1) (l5 + 1) jq5   (by omega) (by omega)
set_option maxRecDepth 100000 in
set_option maxHeartbeats 4000000 in
theorem sf_X1_fewestRopes {h0 : Hp} (n : Nat) (h : Hp) (x1 : Int32) (x2 : Int32) (x3 : Int32) (hn : 51539607553 ≤ n) (j : J h0 h) : Ok (F_X1_fewestRopes n h x1 x2 x3) (fun q => J h0 q.2 ∧ True) := by
  unfold F_X1_fewestRopes
  have f1 := lit_m1
  refine Ok.bind (sf_J7_fill_25 (h0 := h0) n h 208 (-1) (by omega) j (by decide)) (fun q7 hq7 => ?_)
  obtain ⟨jq7, xq7⟩ := hq7
  have f2 := lit_0
  exact sfW_X1_fewestRopes_14 (h0 := h0) n q7 x1 x2 x3 0 0 jq7   (by omega) (by omega)
set_option maxRecDepth 100000 in
set_option maxHeartbeats 4000000 in
theorem sf_X11_part {h0 : Hp} (n : Nat) (h : Hp) (x1 : Int32) (x2 : Int32) (hn : 51539607553 ≤ n) (j : J h0 h) : Ok (F_X11_part n h x1 x2) (fun q => J h0 q.2 ∧ True) := by
  unfold F_X11_part
  refine Ok.bind (sf_X11_isFree (h0 := h0) n h x1 (by omega) j ) (fun q1 hq1 => ?_)
  obtain ⟨eq1, xq1⟩ := hq1
  rw [eq1]
  have f1 := rgT (q1.1)
  have f2 := lit_0
  refine Ok.eq (fun c3 => ?_) (fun c3 => ?_)
  · exact Ok.ret ⟨j, trivial⟩
  · refine Ok.bind (sf_X11_isFree (h0 := h0) n h x2 (by omega) j ) (fun q4 hq4 => ?_)
    obtain ⟨eq4, xq4⟩ := hq4
    rw [eq4]
    have f4 := rgT (q4.1)
    refine Ok.eq (fun c5 => ?_) (fun c5 => ?_)
    · exact Ok.ret ⟨j, trivial⟩
    · refine Ok.bind (sf_X3_grown (h0 := h0) n h 24 ((1 : Int32) <<< ((x1 : Int32) &&& 31)) (by omega) j fd_24) (fun q7 hq7 => ?_)
      obtain ⟨eq7, xq7⟩ := hq7
      rw [eq7]
      have f6 := and_rg ((((q7.1 : Int32).toUInt32 >>> ((x2 : Int32).toUInt32 &&& Int32.toUInt32 31)).toInt32) : Int32) (1 : Int32) 1 lit_1 (by decide)
      refine Ok.eq (fun c7 => ?_) (fun c7 => ?_)
      · refine Ok.bind (sf_X1_fewestRopes (h0 := h0) n h (((hi h 24 2) : Int32) &&& ((((hi h 30 2) : Int32) ^^^ ((-1) : Int32)) : Int32)) x1 x2 (by omega) j ) (fun q10 hq10 => ?_)
        obtain ⟨jq10, xq10⟩ := hq10
        exact Ok.ret ⟨jq10, trivial⟩
      · exact Ok.ret ⟨j, trivial⟩
set_option maxRecDepth 100000 in
set_option maxHeartbeats 4000000 in
theorem sfW_X8_allTunesDivide_7 {h0 : Hp} : ∀ (n : Nat), (∀ (h : Hp) (a : Nat) (l1 : Int32) (l2 : Int32) (l3 : Int32), J h0 h → Sc a → (1 : Int) < n → (1 : Int) + (25 - l2.toInt) < n → Ok (W_X8_allTunesDivide n 7 h a l1 l2 l3) (fun q => q.2 = h ∧ True)) := by
  intro n
  induction n with
  | zero => intro h a l1 l2 l3 j hs hB hM; exfalso; omega
  | succ n ih =>
    intro h a l1 l2 l3 j hs hB hM
    rw [u_X8_allTunesDivide]
    refine Ok.pos rfl ?_
    have f1 := lit_25
    have f2 := rgT (l2)
    refine Ok.le (fun c3 => ?_) (fun c3 => ?_)
    · exact Ok.ret ⟨rfl, trivial⟩
    · have f4 := rgT (l3)
      have f5 := lit_0
      refine Ok.eq (fun c6 => ?_) (fun c6 => ?_)
      · exact Ok.ret ⟨rfl, trivial⟩
      · refine Ok.bind (sf_X11_lowest (h0 := h0) n h l3 (by omega) j ) (fun q3 hq3 => ?_)
        obtain ⟨eq3, xq3⟩ := hq3
        rw [eq3]
        refine Ok.bind (sf_X8_beatOf (h0 := h0) n h a q3.1 (by omega) j hs) (fun q5 hq5 => ?_)
        obtain ⟨eq5, xq5⟩ := hq5
        rw [eq5]
        have f7 := rgT (q5.1)
        refine Ok.le (fun c8 => ?_) (fun c8 => ?_)
        · have f9 := lit_1
          first | have f10 := adT (l2) (1) (by omega) (by omega) | have f10 := adT (l2) (1)
          have f11 := rgT (l2 + 1)
          exact ih h a l1 (l2 + 1) ((l3 : Int32) &&& ((l3 - 1) : Int32)) j hs  (by omega) (by omega)
        · refine Ok.div (by omega) ?_
          have f13 := rgT (l1 - l1 / q5.1 * q5.1)
          refine Ok.eq (fun c14 => ?_) (fun c14 => ?_)
          · have f15 := lit_1
            first | have f16 := adT (l2) (1) (by omega) (by omega) | have f16 := adT (l2) (1)
            have f17 := rgT (l2 + 1)
            exact ih h a l1 (l2 + 1) ((l3 : Int32) &&& ((l3 - 1) : Int32)) j hs  (by omega) (by omega)
          · exact Ok.ret ⟨rfl, trivial⟩
set_option maxRecDepth 100000 in
set_option maxHeartbeats 4000000 in
theorem sf_X8_allTunesDivide {h0 : Hp} (n : Nat) (h : Hp) (a : Nat) (x1 : Int32) (hn : 17179869185 ≤ n) (j : J h0 h) (hs : Sc a) : Ok (F_X8_allTunesDivide n h a x1) (fun q => q.2 = h ∧ True) := by
  unfold F_X8_allTunesDivide
  have f1 := lit_0
  exact sfW_X8_allTunesDivide_7 (h0 := h0) n h a x1 0 (hi h a 3) j hs  (by omega) (by omega)
set_option maxRecDepth 100000 in
set_option maxHeartbeats 4000000 in
theorem sfW_X11_period_2 {h0 : Hp} : ∀ (n : Nat), (∀ (h : Hp) (l1 : Int32), J h0 h → (17179869185 : Int) < n → (17179869185 : Int) + (60 - l1.toInt) < n → Ok (W_X11_period n 2 h l1) (fun q => q.2 = h ∧ True)) := by
  intro n
  induction n with
  | zero => intro h l1 j hB hM; exfalso; omega
  | succ n ih =>
    intro h l1 j hB hM
    rw [u_X11_period]
    refine Ok.pos rfl ?_
    have f1 := lit_60
    have f2 := rgT (l1)
    refine Ok.le (fun c3 => ?_) (fun c3 => ?_)
    · exact Ok.ret ⟨rfl, trivial⟩
    · refine Ok.bind (sf_X8_allTunesDivide (h0 := h0) n h 30 l1 (by omega) j sc_30) (fun q2 hq2 => ?_)
      obtain ⟨eq2, xq2⟩ := hq2
      rw [eq2]
      have f4 := rgT (q2.1)
      have f5 := lit_0
      refine Ok.eq (fun c6 => ?_) (fun c6 => ?_)
      · have f7 := lit_1
        first | have f8 := adT (l1) (1) (by omega) (by omega) | have f8 := adT (l1) (1)
        have f9 := rgT (l1 + 1)
        exact ih h (l1 + 1) j   (by omega) (by omega)
      · exact Ok.ret ⟨rfl, trivial⟩
set_option maxRecDepth 100000 in
set_option maxHeartbeats 4000000 in
theorem sf_X11_period {h0 : Hp} (n : Nat) (h : Hp) (hn : 34359738369 ≤ n) (j : J h0 h) : Ok (F_X11_period n h) (fun q => q.2 = h ∧ True) := by
  unfold F_X11_period
  have f1 := lit_1
  exact sfW_X11_period_2 (h0 := h0) n h 1 j   (by omega) (by omega)
set_option maxRecDepth 100000 in
set_option maxHeartbeats 4000000 in
theorem sfW_X11_returns_26 {h0 : Hp} : ∀ (n : Nat), (∀ (h : Hp) (l1 : Int32) (l2 : Int32), J h0 h → 0 ≤ l1.toInt → l1.toInt < 5 → (51539607553 : Int) < n → (51539607553 : Int) + (101 - l2.toInt) < n → Ok (W_X11_returns n 26 h l1 l2) (fun q => J h0 q.2 ∧ True)) := by
  intro n
  induction n with
  | zero => intro h l1 l2 j i0 i1 hB hM; exfalso; omega
  | succ n ih =>
    intro h l1 l2 j i0 i1 hB hM
    rw [u_X11_returns]
    refine Ok.pos rfl ?_
    have f1 := lit_100
    have f2 := rgT (l2)
    refine Ok.lt (fun c3 => ?_) (fun c3 => ?_)
    · exact Ok.ret ⟨j, trivial⟩
    · refine Ok.bind (sf_X0_walk (h0 := h0) n h 23 34 (by omega) j bd_23 sc_34) (fun q2 hq2 => ?_)
      obtain ⟨jq2, xq2⟩ := hq2
      have f4 := rgT (l1)
      refine Ok.chk (ixT (by omega) (by omega)) (fun c5 => ?_)
      refine Ok.pos c5 ?_
      have f6 := rgT (hi q2 36 (Int32.toNatClampNeg l1))
      have f7 := rgT (hi q2 32 (Int32.toNatClampNeg l1))
      refine Ok.eq (fun c8 => ?_) (fun c8 => ?_)
      · exact Ok.ret ⟨jq2, trivial⟩
      · have f9 := lit_1
        first | have f10 := adT (l2) (1) (by omega) (by omega) | have f10 := adT (l2) (1)
        have f11 := rgT (l2 + 1)
        exact ih q2 l1 (l2 + 1) jq2  (by omega) (by omega) (by omega) (by omega)
set_option maxRecDepth 100000 in
set_option maxHeartbeats 4000000 in
theorem sf_X11_returns {h0 : Hp} (n : Nat) (h : Hp) (x1 : Int32) (hn : 68719476737 ≤ n) (j : J h0 h) : Ok (F_X11_returns n h x1) (fun q => J h0 q.2 ∧ True) := by
  unfold F_X11_returns
  have f1 := rgT (x1)
  refine Ok.bind (sf_X0_hasGoer (h0 := h0) n h 23 x1 (by omega) j bd_23) (fun q7 hq7 => ?_)
  obtain ⟨eq7, xq7⟩ := hq7
  rw [eq7]
  have f2 := rgT (q7.1)
  have f3 := lit_0
  refine Ok.eq (fun c4 => ?_) (fun c4 => ?_)
  · exact Ok.ret ⟨j, trivial⟩
  · refine Ok.bind (sf_X8_become (h0 := h0) n h 34 30 (by omega) j sc_34 sc_30) (fun q10 hq10 => ?_)
    obtain ⟨jq10, xq10⟩ := hq10
    have f5 := lit_1
    exact sfW_X11_returns_26 (h0 := h0) n q10 x1 1 jq10  (by omega) (by omega) (by omega) (by omega)
set_option maxRecDepth 100000 in
set_option maxHeartbeats 4000000 in
theorem sfW_X11_silence_20 {h0 : Hp} : ∀ (n : Nat), (∀ (h : Hp) (l1 : Int32) (l2 : Int32) (l3 : Int32) (l4 : Int32) (l5 : Int32), J h0 h → (17179869185 : Int) < n → (17179869185 : Int) + (60 - l5.toInt) < n → Ok (W_X11_silence n 20 h l1 l2 l3 l4 l5) (fun q => q.2 = h ∧ True)) := by
  intro n
  induction n with
  | zero => intro h l1 l2 l3 l4 l5 j hB hM; exfalso; omega
  | succ n ih =>
    intro h l1 l2 l3 l4 l5 j hB hM
    rw [u_X11_silence]
    refine Ok.pos rfl ?_
    have f1 := lit_60
    have f2 := rgT (l5)
    refine Ok.le (fun c3 => ?_) (fun c3 => ?_)
    · have f4 := rgT (l1)
      have f5 := lit_0
      refine Ok.eq (fun c6 => ?_) (fun c6 => ?_)
      · exact Ok.ret ⟨rfl, trivial⟩
      · exact Ok.ret ⟨rfl, trivial⟩
    · refine Ok.bind (sf_X8_loudAt (h0 := h0) n h 30 ((hi h 30 0) + l5) (by omega) j sc_30) (fun q3 hq3 => ?_)
      obtain ⟨eq3, xq3⟩ := hq3
      rw [eq3]
      have f7 := rgT (q3.1)
      have f8 := lit_0
      refine Ok.eq (fun c9 => ?_) (fun c9 => ?_)
      · have f10 := rgT (l4)
        have f11 := lit_1
        first | have f12 := adT (l4) (1) (by omega) (by omega) | have f12 := adT (l4) (1)
        have f13 := rgT (l4 + 1)
        have f14 := rgT (l2)
        refine Ok.le (fun c15 => ?_) (fun c15 => ?_)
        · first | have f16 := adT (l5) (1) (by omega) (by omega) | have f16 := adT (l5) (1)
          have f17 := rgT (l5 + 1)
          exact ih h l1 l2 l3 (l4 + 1) (l5 + 1) j   (by omega) (by omega)
        · first | have f18 := adT (l5) (1) (by omega) (by omega) | have f18 := adT (l5) (1)
          have f19 := rgT (l5 + 1)
          exact ih h l1 (l4 + 1) ((l5 + 1) - (l4 + 1)) (l4 + 1) (l5 + 1) j   (by omega) (by omega)
      · have f20 := rgT (l2)
        refine Ok.le (fun c21 => ?_) (fun c21 => ?_)
        · have f22 := lit_1
          first | have f23 := adT (l5) (1) (by omega) (by omega) | have f23 := adT (l5) (1)
          have f24 := rgT (l5 + 1)
          exact ih h l1 l2 l3 0 (l5 + 1) j   (by omega) (by omega)
        · have f25 := lit_1
          first | have f26 := adT (l5) (1) (by omega) (by omega) | have f26 := adT (l5) (1)
          have f27 := rgT (l5 + 1)
          exact ih h l1 0 ((l5 + 1) - 0) 0 (l5 + 1) j   (by omega) (by omega)
set_option maxRecDepth 100000 in
set_option maxHeartbeats 4000000 in
theorem sf_X11_silence {h0 : Hp} (n : Nat) (h : Hp) (x1 : Int32) (hn : 34359738369 ≤ n) (j : J h0 h) : Ok (F_X11_silence n h x1) (fun q => q.2 = h ∧ True) := by
  unfold F_X11_silence
  refine Ok.bind (sf_X11_isNoughtOrOne (h0 := h0) n h x1 (by omega) j ) (fun q8 hq8 => ?_)
  obtain ⟨eq8, xq8⟩ := hq8
  rw [eq8]
  have f1 := rgT (q8.1)
  have f2 := lit_0
  refine Ok.eq (fun c3 => ?_) (fun c3 => ?_)
  · exact Ok.ret ⟨rfl, trivial⟩
  · exact sfW_X11_silence_20 (h0 := h0) n h x1 0 (-2) 0 0 j   (by omega) (by omega)
set_option maxRecDepth 100000 in
set_option maxHeartbeats 4000000 in
theorem sfW_X11_stood_65 {h0 : Hp} : ∀ (n : Nat), (∀ (h : Hp) (l1 : Int32) (l2 : Int32) (l3 : Int32) (l4 : Int32) (l5 : Int32), J h0 h → 0 ≤ l1.toInt → l1.toInt < 5 → l3.toInt ≤ 100 → (51539607553 : Int) < n → (51539607553 : Int) + (l3.toInt - l5.toInt + 1) < n → Ok (W_X11_stood n 65 h l1 l2 l3 l4 l5) (fun q => J h0 q.2 ∧ True)) := by
  intro n
  induction n with
  | zero => intro h l1 l2 l3 l4 l5 j i0 i1 i2 hB hM; exfalso; omega
  | succ n ih =>
    intro h l1 l2 l3 l4 l5 j i0 i1 i2 hB hM
    rw [u_X11_stood]
    refine Ok.pos rfl ?_
    have f1 := rgT (l3)
    have f2 := rgT (l5)
    refine Ok.lt (fun c3 => ?_) (fun c3 => ?_)
    · exact Ok.ret ⟨j, trivial⟩
    · refine Ok.bind (sf_X0_walk (h0 := h0) n h 23 34 (by omega) j bd_23 sc_34) (fun q2 hq2 => ?_)
      obtain ⟨jq2, xq2⟩ := hq2
      have f4 := rgT (l1)
      refine Ok.chk (ixT (by omega) (by omega)) (fun c5 => ?_)
      have f6 := rgT (hi q2 36 (Int32.toNatClampNeg l1))
      have f7 := rgT (l2)
      refine Ok.eq (fun c8 => ?_) (fun c8 => ?_)
      · have f9 := lit_1
        first | have f10 := adT (l5) (1) (by omega) (by omega) | have f10 := adT (l5) (1)
        have f11 := rgT (l5 + 1)
        exact ih q2 l1 l2 l3 (l4 + 1) (l5 + 1) jq2  (by omega) (by omega) (by omega) (by omega) (by omega)
      · have f12 := lit_1
        first | have f13 := adT (l5) (1) (by omega) (by omega) | have f13 := adT (l5) (1)
        have f14 := rgT (l5 + 1)
        exact ih q2 l1 l2 l3 l4 (l5 + 1) jq2  (by omega) (by omega) (by omega) (by omega) (by omega)
set_option maxRecDepth 100000 in
set_option maxHeartbeats 4000000 in
theorem sf_X11_stood {h0 : Hp} (n : Nat) (h : Hp) (x1 : Int32) (x2 : Int32) (x3 : Int32) (hn : 68719476737 ≤ n) (j : J h0 h) : Ok (F_X11_stood n h x1 x2 x3) (fun q => J h0 q.2 ∧ True) := by
  unfold F_X11_stood
  have f1 := rgT (x1)
  refine Ok.bind (sf_X0_hasGoer (h0 := h0) n h 23 x1 (by omega) j bd_23) (fun q6 hq6 => ?_)
  obtain ⟨eq6, xq6⟩ := hq6
  rw [eq6]
  have f2 := rgT (q6.1)
  have f3 := lit_0
  refine Ok.eq (fun c4 => ?_) (fun c4 => ?_)
  · exact Ok.ret ⟨j, trivial⟩
  · refine Ok.bind (sf_X3_has (h0 := h0) n h 24 x2 (by omega) j fd_24) (fun q9 hq9 => ?_)
    obtain ⟨eq9, xq9⟩ := hq9
    rw [eq9]
    have f5 := rgT (q9.1)
    refine Ok.eq (fun c6 => ?_) (fun c6 => ?_)
    · exact Ok.ret ⟨j, trivial⟩
    · have f7 := rgT (x3)
      refine Ok.bind (sf_X11_isSpan (h0 := h0) n h x3 (by omega) j ) (fun q12 hq12 => ?_)
      obtain ⟨eq12, xq12⟩ := hq12
      rw [eq12]
      have f8 := rgT (q12.1)
      refine Ok.eq (fun c9 => ?_) (fun c9 => ?_)
      · exact Ok.ret ⟨j, trivial⟩
      · refine Ok.bind (sf_X8_become (h0 := h0) n h 34 30 (by omega) j sc_34 sc_30) (fun q15 hq15 => ?_)
        obtain ⟨jq15, xq15⟩ := hq15
        refine Ok.chk (ixT (by omega) (by omega)) (fun c10 => ?_)
        have f11 := rgT (hi q15 36 (Int32.toNatClampNeg x1))
        have f12 := rgT (x2)
        refine Ok.eq (fun c13 => ?_) (fun c13 => ?_)
        · have f14 := lit_1
          exact sfW_X11_stood_65 (h0 := h0) n q15 x1 x2 x3 1 1 jq15  (by omega) (by omega) (by omega) (by omega) (by omega)
        · have f15 := lit_1
          exact sfW_X11_stood_65 (h0 := h0) n q15 x1 x2 x3 0 1 jq15  (by omega) (by omega) (by omega) (by omega) (by omega)
set_option maxRecDepth 100000 in
set_option maxHeartbeats 4000000 in
theorem sf_X3_quietOnTheRight {h0 : Hp} (n : Nat) (h : Hp) (a : Nat) (x1 : Int32) (hn : 1 ≤ n) (j : J h0 h) (hs : IsFd a) : Ok (F_X3_quietOnTheRight n h a x1) (fun q => q.2 = h ∧ True) := by
  unfold F_X3_quietOnTheRight
  exact Ok.ret ⟨rfl, trivial⟩
set_option maxRecDepth 100000 in
set_option maxHeartbeats 4000000 in
theorem sf_X0_canSpread {h0 : Hp} (n : Nat) (h : Hp) (a : Nat) (b1 : Nat) (hn : 1 ≤ n) (j : J h0 h) (hs : IsBd a) (ht1 : Sc b1) : Ok (F_X0_canSpread n h a b1) (fun q => q.2 = h ∧ True) := by
  unfold F_X0_canSpread
  have f1 := rgT (hi h a 3)
  have f2 := lit_0
  refine Ok.le (fun c3 => ?_) (fun c3 => ?_)
  · exact Ok.ret ⟨rfl, trivial⟩
  · refine Ok.bind (sf_X3_quietOnTheRight (h0 := h0) n h (a + 1) (hi h b1 3) (by omega) j hs.2.1) (fun q2 hq2 => ?_)
    obtain ⟨eq2, xq2⟩ := hq2
    rw [eq2]
    have f4 := rgT (q2.1)
    refine Ok.eq (fun c5 => ?_) (fun c5 => ?_)
    · exact Ok.ret ⟨rfl, trivial⟩
    · refine Ok.bind (sf_J6_bitCount_0f7a4 (h0 := h0) n h (hi h b1 3) (by omega) j ) (fun q5 hq5 => ?_)
      obtain ⟨eq5, xq5⟩ := hq5
      rw [eq5]
      have f6 := lit_8
      have f7 := rgT (q5.1)
      refine Ok.le (fun c8 => ?_) (fun c8 => ?_)
      · exact Ok.ret ⟨rfl, trivial⟩
      · exact Ok.ret ⟨rfl, trivial⟩
