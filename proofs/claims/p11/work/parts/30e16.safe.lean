/-! the class comes to its end, 17 -/
set_option maxRecDepth 100000 in
set_option maxHeartbeats 4000000 in
theorem sf_X10_lookBack {h0 : Hp} (n : Nat) (h : Hp) (x1 : Int32) (x2 : Int32) (hn : 17179869185 ≤ n) (j : J h0 h) : Ok (F_X10_lookBack n h x1 x2) (fun q => J h0 q ∧ True) := by
  unfold F_X10_lookBack
  have f1 := rgT (x2)
  have f2 := lit_100
  have f3 := miT (N := 100) (x2)
  have f4 := rgT (if 100 < x2 then 100 else x2)
  exact sfW_X10_lookBack_12 (h0 := h0) n h x1 x2 ((1 : Int32) <<< ((x1 : Int32) &&& 31)) (if 100 < x2 then 100 else x2) j  (by omega) (by omega) (by omega)
set_option maxRecDepth 100000 in
set_option maxHeartbeats 4000000 in
theorem sfW_X10_cellOnWay_12 {h0 : Hp} : ∀ (n : Nat), (∀ (h : Hp) (l1 : Int32) (l2 : Int32) (l3 : Int32) (l4 : Int32) (l5 : Int32) (l6 : Int32), J h0 h → 0 ≤ l6.toInt → (1 : Int) < n → (1 : Int) + (101 - l6.toInt) < n → Ok (W_X10_cellOnWay n 12 h l1 l2 l3 l4 l5 l6) (fun q => q.2 = h ∧ True)) := by
  intro n
  induction n with
  | zero => intro h l1 l2 l3 l4 l5 l6 j i0 hB hM; exfalso; omega
  | succ n ih =>
    intro h l1 l2 l3 l4 l5 l6 j i0 hB hM
    rw [u_X10_cellOnWay]
    refine Ok.pos rfl ?_
    have f1 := rgT (l4)
    have f2 := rgT (l6)
    refine Ok.lt (fun c3 => ?_) (fun c3 => ?_)
    · exact Ok.ret ⟨rfl, trivial⟩
    · have f4 := rgT (l3)
      refine Ok.lt (fun c5 => ?_) (fun c5 => ?_)
      · exact Ok.ret ⟨rfl, trivial⟩
      · have f6 := lit_100
        refine Ok.lt (fun c7 => ?_) (fun c7 => ?_)
        · exact Ok.ret ⟨rfl, trivial⟩
        · refine Ok.bind (sf_X10_onwards (h0 := h0) n h ((1 : Int32) <<< ((l5 : Int32) &&& 31)) ((hi h 204 4) + l6) 0 (by omega) j ) (fun q4 hq4 => ?_)
          obtain ⟨eq4, xq4⟩ := hq4
          rw [eq4]
          refine Ok.chk (ixT (by omega) (by omega)) (fun c8 => ?_)
          refine Ok.bind (sf_X11_lowest (h0 := h0) n h ((q4.1 : Int32) &&& ((hi h 206 (Int32.toNatClampNeg l6)) : Int32)) (by omega) j ) (fun q7 hq7 => ?_)
          obtain ⟨eq7, xq7⟩ := hq7
          rw [eq7]
          have f9 := lit_1
          first | have f10 := adT (l6) (1) (by omega) (by omega) | have f10 := adT (l6) (1)
          have f11 := rgT (l6 + 1)
          exact ih h l1 l2 l3 l4 q7.1 (l6 + 1) j  (by omega) (by omega) (by omega)
set_option maxRecDepth 100000 in
set_option maxHeartbeats 4000000 in
theorem sf_X10_cellOnWay {h0 : Hp} (n : Nat) (h : Hp) (x1 : Int32) (x2 : Int32) (x3 : Int32) (x4 : Int32) (hn : 17179869185 ≤ n) (j : J h0 h) : Ok (F_X10_cellOnWay n h x1 x2 x3 x4) (fun q => J h0 q.2 ∧ True) := by
  unfold F_X10_cellOnWay
  refine Ok.bind (sf_X10_lookBack (h0 := h0) n h x2 x3 (by omega) j ) (fun q9 hq9 => ?_)
  obtain ⟨jq9, xq9⟩ := hq9
  have f1 := lit_1
  exact (sfW_X10_cellOnWay_12 (h0 := h0) n q9 x1 x2 x3 x4 x1 1 jq9  (by omega) (by omega) (by omega)).mono (fun q hq => ⟨by rw [hq.1]; exact jq9, trivial⟩)
set_option maxRecDepth 100000 in
set_option maxHeartbeats 4000000 in
theorem sf_X11_way {h0 : Hp} (n : Nat) (h : Hp) (x1 : Int32) (x2 : Int32) (x3 : Int32) (hn : 34359738369 ≤ n) (j : J h0 h) : Ok (F_X11_way n h x1 x2 x3) (fun q => J h0 q.2 ∧ True) := by
  unfold F_X11_way
  refine Ok.bind (sf_X11_isFree (h0 := h0) n h x1 (by omega) j ) (fun q1 hq1 => ?_)
  obtain ⟨eq1, xq1⟩ := hq1
  rw [eq1]
  have f1 := rgT (q1.1)
  have f2 := lit_0
  refine Ok.eq (fun c3 => ?_) (fun c3 => ?_)
  · exact Ok.ret ⟨j, trivial⟩
  · refine Ok.bind (sf_X11_isFree (h0 := h0) n h x2 (by omega) j ) (fun q4 hq4 => ?_)
    obtain ⟨eq4, xq4⟩ := hq4
    rw [eq4]
    have f4 := rgT (q4.1)
    refine Ok.eq (fun c5 => ?_) (fun c5 => ?_)
    · exact Ok.ret ⟨j, trivial⟩
    · refine Ok.bind (sf_X10_look (h0 := h0) n h 30 (by omega) j sc_30) (fun q7 hq7 => ?_)
      obtain ⟨jq7, xq7⟩ := hq7
      have f6 := rgT (x1)
      have f7 := rgT (x2)
      have f8 := rgT (hi q7 30 0)
      have f9 := lit_100
      refine Ok.bind (sf_X10_fewest (h0 := h0) n q7 x1 x2 (hi q7 30 0) 0 100 (by omega) jq7 (by omega)) (fun q9 hq9 => ?_)
      obtain ⟨eq9, xq9⟩ := hq9
      rw [eq9]
      have f10 := rgT (q9.1)
      refine Ok.eqV rfl lit_m1 (fun c11 => ?_) (fun c11 => ?_)
      · exact Ok.ret ⟨jq7, trivial⟩
      · have f12 := rgT (x3)
        refine Ok.eqV rfl lit_m1 (fun c13 => ?_) (fun c13 => ?_)
        · exact Ok.ret ⟨jq7, trivial⟩
        · refine Ok.lt (fun c14 => ?_) (fun c14 => ?_)
          · exact Ok.ret ⟨jq7, trivial⟩
          · refine Ok.le (fun c15 => ?_) (fun c15 => ?_)
            · refine Ok.bind (sf_X10_cellOnWay (h0 := h0) n q7 x1 x2 q9.1 x3 (by omega) jq7 ) (fun q15 hq15 => ?_)
              obtain ⟨jq15, xq15⟩ := hq15
              exact Ok.ret ⟨jq15, trivial⟩
            · exact Ok.ret ⟨jq7, trivial⟩
set_option maxRecDepth 100000 in
set_option maxHeartbeats 4000000 in
theorem sfW_X10_bestWait_9 {h0 : Hp} : ∀ (n : Nat), (∀ (h : Hp) (l1 : Int32) (l2 : Int32) (l3 : Int32) (l4 : Int32) (l5 : Int32), J h0 h → l4.toInt ≤ 100 → (17179869185 : Int) < n → (17179869185 : Int) + (60 - l5.toInt) < n → Ok (W_X10_bestWait n 9 h l1 l2 l3 l4 l5) (fun q => q.2 = h ∧ True)) := by
  intro n
  induction n with
  | zero => intro h l1 l2 l3 l4 l5 j i0 hB hM; exfalso; omega
  | succ n ih =>
    intro h l1 l2 l3 l4 l5 j i0 hB hM
    rw [u_X10_bestWait]
    refine Ok.pos rfl ?_
    have f1 := lit_60
    have f2 := rgT (l5)
    refine Ok.le (fun c3 => ?_) (fun c3 => ?_)
    · exact Ok.ret ⟨rfl, trivial⟩
    · have f4 := rgT (l1)
      have f5 := rgT (l2)
      have f6 := rgT (hi h 204 4)
      first | have f7 := adT (hi h 204 4) (l5) (by omega) (by omega) | have f7 := adT (hi h 204 4) (l5)
      have f8 := rgT ((hi h 204 4) + l5)
      have f9 := lit_0
      have f10 := rgT (l4)
      refine Ok.bind (sf_X10_fewest (h0 := h0) n h l1 l2 ((hi h 204 4) + l5) 0 l4 (by omega) j (by omega)) (fun q2 hq2 => ?_)
      obtain ⟨eq2, xq2⟩ := hq2
      rw [eq2]
      have f11 := rgT (q2.1)
      refine Ok.eqV rfl lit_m1 (fun c12 => ?_) (fun c12 => ?_)
      · have f13 := lit_1
        first | have f14 := adT (l5) (1) (by omega) (by omega) | have f14 := adT (l5) (1)
        have f15 := rgT (l5 + 1)
        exact ih h l1 l2 l3 l4 (l5 + 1) j  (by omega) (by omega) (by omega)
      · have f16 := lit_1
        generalize ey17 : (q2.1 - 1 : Int32) = y17
        first | have f18 := sbG ey17 rfl rfl (by omega) (by omega) | have f18 := sbG ey17 rfl rfl
        have f19 := rgT (y17)
        first | have f20 := adT (l5) (1) (by omega) (by omega) | have f20 := adT (l5) (1)
        have f21 := rgT (l5 + 1)
        exact ih h l1 l2 l5 y17 (l5 + 1) j  (by omega) (by omega) (by omega)
set_option maxRecDepth 100000 in
set_option maxHeartbeats 4000000 in
theorem sf_X10_bestWait {h0 : Hp} (n : Nat) (h : Hp) (x1 : Int32) (x2 : Int32) (hn : 34359738369 ≤ n) (j : J h0 h) : Ok (F_X10_bestWait n h x1 x2) (fun q => q.2 = h ∧ True) := by
  unfold F_X10_bestWait
  have f1 := lit_100
  have f2 := lit_0
  exact sfW_X10_bestWait_9 (h0 := h0) n h x1 x2 (-1) 100 0 j  (by omega) (by omega) (by omega)
set_option maxRecDepth 100000 in
set_option maxHeartbeats 4000000 in
theorem sf_X11_leave {h0 : Hp} (n : Nat) (h : Hp) (x1 : Int32) (x2 : Int32) (x3 : Int32) (hn : 34359738369 ≤ n) (j : J h0 h) : Ok (F_X11_leave n h x1 x2 x3) (fun q => J h0 q.2 ∧ True) := by
  unfold F_X11_leave
  refine Ok.bind (sf_X11_isFree (h0 := h0) n h x1 (by omega) j ) (fun q1 hq1 => ?_)
  obtain ⟨eq1, xq1⟩ := hq1
  rw [eq1]
  have f1 := rgT (q1.1)
  have f2 := lit_0
  refine Ok.eq (fun c3 => ?_) (fun c3 => ?_)
  · exact Ok.ret ⟨j, trivial⟩
  · refine Ok.bind (sf_X11_isFree (h0 := h0) n h x2 (by omega) j ) (fun q4 hq4 => ?_)
    obtain ⟨eq4, xq4⟩ := hq4
    rw [eq4]
    have f4 := rgT (q4.1)
    refine Ok.eq (fun c5 => ?_) (fun c5 => ?_)
    · exact Ok.ret ⟨j, trivial⟩
    · refine Ok.bind (sf_X11_isNoughtOrOne (h0 := h0) n h x3 (by omega) j ) (fun q7 hq7 => ?_)
      obtain ⟨eq7, xq7⟩ := hq7
      rw [eq7]
      have f6 := rgT (q7.1)
      refine Ok.eq (fun c7 => ?_) (fun c7 => ?_)
      · exact Ok.ret ⟨j, trivial⟩
      · refine Ok.bind (sf_X10_look (h0 := h0) n h 30 (by omega) j sc_30) (fun q10 hq10 => ?_)
        obtain ⟨jq10, xq10⟩ := hq10
        refine Ok.bind (sf_X10_bestWait (h0 := h0) n q10 x1 x2 (by omega) jq10 ) (fun q12 hq12 => ?_)
        obtain ⟨eq12, xq12⟩ := hq12
        rw [eq12]
        have f8 := rgT (q12.1)
        refine Ok.eqV rfl lit_m1 (fun c9 => ?_) (fun c9 => ?_)
        · exact Ok.ret ⟨jq10, trivial⟩
        · have f10 := rgT (x3)
          refine Ok.eq (fun c11 => ?_) (fun c11 => ?_)
          · exact Ok.ret ⟨jq10, trivial⟩
          · have f12 := rgT (x1)
            have f13 := rgT (x2)
            have f14 := rgT (hi q10 30 0)
            first | have f15 := adT (hi q10 30 0) (q12.1) (by omega) (by omega) | have f15 := adT (hi q10 30 0) (q12.1)
            have f16 := rgT ((hi q10 30 0) + q12.1)
            have f17 := lit_100
            refine Ok.bind (sf_X10_fewest (h0 := h0) n q10 x1 x2 ((hi q10 30 0) + q12.1) 0 100 (by omega) jq10 (by omega)) (fun q16 hq16 => ?_)
            obtain ⟨eq16, xq16⟩ := hq16
            rw [eq16]
            exact Ok.ret ⟨jq10, trivial⟩
set_option maxRecDepth 100000 in
set_option maxHeartbeats 4000000 in
theorem sfW_X10_mownBy_6 {h0 : Hp} : ∀ (n : Nat), (∀ (h : Hp) (l1 : Int32) (l2 : Int32) (l3 : Int32) (l4 : Int32) (l5 : Int32) (l6 : Int32) (l7 : Int32), J h0 h → l4.toInt ≤ 100 → (17179869185 : Int) < n → (17179869185 : Int) + (256 - l7.toInt) < n → Ok (W_X10_mownBy n 6 h l1 l2 l3 l4 l5 l6 l7) (fun q => q.2 = h ∧ True)) := by
  intro n
  induction n with
  | zero => intro h l1 l2 l3 l4 l5 l6 l7 j i0 hB hM; exfalso; omega
  | succ n ih =>
    intro h l1 l2 l3 l4 l5 l6 l7 j i0 hB hM
    rw [u_X10_mownBy]
    refine Ok.pos rfl ?_
    have f1 := lit_256
    have f2 := rgT (l7)
    refine Ok.le (fun c3 => ?_) (fun c3 => ?_)
    · exact Ok.ret ⟨rfl, trivial⟩
    · have f4 := rgT (l6)
      have f5 := rgT (l5)
      refine Ok.eq (fun c6 => ?_) (fun c6 => ?_)
      · exact Ok.ret ⟨rfl, trivial⟩
      · refine Ok.bind (sf_J6_bitCount_0f7a4 (h0 := h0) n h l6 (by omega) j ) (fun q3 hq3 => ?_)
        obtain ⟨eq3, xq3⟩ := hq3
        rw [eq3]
        have f7 := rgT (q3.1)
        have f8 := rgT (l1)
        refine Ok.eq (fun c9 => ?_) (fun c9 => ?_)
        · have f10 := rgT (l2)
          have f11 := rgT (l3)
          have f12 := rgT (hi h 204 4)
          have f13 := rgT (l4)
          refine Ok.bind (sf_X10_fewest (h0 := h0) n h l2 l3 (hi h 204 4) l6 l4 (by omega) j (by omega)) (fun q6 hq6 => ?_)
          obtain ⟨eq6, xq6⟩ := hq6
          rw [eq6]
          have f14 := rgT (q6.1)
          refine Ok.eqV rfl lit_m1 (fun c15 => ?_) (fun c15 => ?_)
          · have f16 := lit_1
            first | have f17 := adT (l7) (1) (by omega) (by omega) | have f17 := adT (l7) (1)
            have f18 := rgT (l7 + 1)
            exact ih h l1 l2 l3 l4 l5 (((l6 - l5) : Int32) &&& (l5 : Int32)) (l7 + 1) j  (by omega) (by omega) (by omega)
          · exact Ok.ret ⟨rfl, trivial⟩
        · have f19 := rgT (l4)
          have f20 := lit_1
          first | have f21 := adT (l7) (1) (by omega) (by omega) | have f21 := adT (l7) (1)
          have f22 := rgT (l7 + 1)
          exact ih h l1 l2 l3 l4 l5 (((l6 - l5) : Int32) &&& (l5 : Int32)) (l7 + 1) j  (by omega) (by omega) (by omega)
set_option maxRecDepth 100000 in
set_option maxHeartbeats 4000000 in
theorem sf_X10_mownBy {h0 : Hp} (n : Nat) (h : Hp) (x1 : Int32) (x2 : Int32) (x3 : Int32) (x4 : Int32) (x5 : Int32) (hn : 34359738369 ≤ n) (j : J h0 h) (p0 : x4.toInt ≤ 100) : Ok (F_X10_mownBy n h x1 x2 x3 x4 x5) (fun q => q.2 = h ∧ True) := by
  unfold F_X10_mownBy
  have f1 := rgT (x4)
  have f2 := lit_0
  exact sfW_X10_mownBy_6 (h0 := h0) n h x1 x2 x3 x4 x5 0 0 j  (by omega) (by omega) (by omega)
set_option maxRecDepth 100000 in
set_option maxHeartbeats 4000000 in
theorem sfW_X10_fewestMown_22 {h0 : Hp} : ∀ (n : Nat), (∀ (h : Hp) (l1 : Int32) (l2 : Int32) (l3 : Int32) (l4 : Int32) (l5 : Int32), J h0 h → l3.toInt ≤ 100 → (34359738369 : Int) < n → (34359738369 : Int) + (64 - l5.toInt) < n → Ok (W_X10_fewestMown n 22 h l1 l2 l3 l4 l5) (fun q => q.2 = h ∧ True)) := by
  intro n
  induction n with
  | zero => intro h l1 l2 l3 l4 l5 j i0 hB hM; exfalso; omega
  | succ n ih =>
    intro h l1 l2 l3 l4 l5 j i0 hB hM
    rw [u_X10_fewestMown]
    refine Ok.pos rfl ?_
    refine Ok.bind (sf_J6_bitCount_0f7a4 (h0 := h0) n h l4 (by omega) j ) (fun q1 hq1 => ?_)
    obtain ⟨eq1, xq1⟩ := hq1
    rw [eq1]
    have f1 := rgT (q1.1)
    have f2 := rgT (l5)
    refine Ok.le (fun c3 => ?_) (fun c3 => ?_)
    · exact Ok.ret ⟨rfl, trivial⟩
    · have f4 := rgT (l1)
      have f5 := rgT (l2)
      have f6 := rgT (l3)
      have f7 := rgT (l4)
      refine Ok.bind (sf_X10_mownBy (h0 := h0) n h l5 l1 l2 l3 l4 (by omega) j (by omega)) (fun q4 hq4 => ?_)
      obtain ⟨eq4, xq4⟩ := hq4
      rw [eq4]
      have f8 := rgT (q4.1)
      refine Ok.eqV rfl lit_m1 (fun c9 => ?_) (fun c9 => ?_)
      · have f10 := lit_1
        first | have f11 := adT (l5) (1) (by omega) (by omega) | have f11 := adT (l5) (1)
        have f12 := rgT (l5 + 1)
        exact ih h l1 l2 l3 l4 (l5 + 1) j  (by omega) (by omega) (by omega)
      · exact Ok.ret ⟨rfl, trivial⟩
set_option maxRecDepth 100000 in
set_option maxHeartbeats 4000000 in
theorem sf_X10_fewestMown {h0 : Hp} (n : Nat) (h : Hp) (x1 : Int32) (x2 : Int32) (x3 : Int32) (x4 : Int32) (hn : 51539607553 ≤ n) (j : J h0 h) (p0 : x3.toInt ≤ 100) : Ok (F_X10_fewestMown n h x1 x2 x3 x4) (fun q => q.2 = h ∧ True) := by
  unfold F_X10_fewestMown
  have f1 := rgT (x1)
  have f2 := rgT (x2)
  have f3 := rgT (hi h 204 4)
  have f4 := rgT (x4)
  have f5 := rgT (x3)
  refine Ok.bind (sf_X10_fewest (h0 := h0) n h x1 x2 (hi h 204 4) x4 x3 (by omega) j (by omega)) (fun q7 hq7 => ?_)
  obtain ⟨eq7, xq7⟩ := hq7
  rw [eq7]
  have f6 := rgT (q7.1)
  refine Ok.eqV rfl lit_m1 (fun c7 => ?_) (fun c7 => ?_)
  · exact Ok.ret ⟨rfl, trivial⟩
  · have f8 := lit_0
    exact sfW_X10_fewestMown_22 (h0 := h0) n h x1 x2 x3 x4 0 j  (by omega) (by omega) (by omega)
set_option maxRecDepth 100000 in
set_option maxHeartbeats 4000000 in
theorem sf_X11_mows {h0 : Hp} (n : Nat) (h : Hp) (x1 : Int32) (x2 : Int32) (x3 : Int32) (x4 : Int32) (hn : 51539607553 ≤ n) (j : J h0 h) : Ok (F_X11_mows n h x1 x2 x3 x4) (fun q => J h0 q.2 ∧ True) := by
  unfold F_X11_mows
  refine Ok.bind (sf_X11_isFree (h0 := h0) n h x1 (by omega) j ) (fun q1 hq1 => ?_)
  obtain ⟨eq1, xq1⟩ := hq1
  rw [eq1]
  have f1 := rgT (q1.1)
  have f2 := lit_0
  refine Ok.eq (fun c3 => ?_) (fun c3 => ?_)
  · exact Ok.ret ⟨j, trivial⟩
  · refine Ok.bind (sf_X11_isFree (h0 := h0) n h x2 (by omega) j ) (fun q4 hq4 => ?_)
    obtain ⟨eq4, xq4⟩ := hq4
    rw [eq4]
    have f4 := rgT (q4.1)
    refine Ok.eq (fun c5 => ?_) (fun c5 => ?_)
    · exact Ok.ret ⟨j, trivial⟩
    · have f6 := rgT (x3)
      refine Ok.bind (sf_X11_isSpan (h0 := h0) n h x3 (by omega) j ) (fun q7 hq7 => ?_)
      obtain ⟨eq7, xq7⟩ := hq7
      rw [eq7]
      have f7 := rgT (q7.1)
      refine Ok.eq (fun c8 => ?_) (fun c8 => ?_)
      · exact Ok.ret ⟨j, trivial⟩
      · refine Ok.bind (sf_X11_isNoughtOrOne (h0 := h0) n h x4 (by omega) j ) (fun q10 hq10 => ?_)
        obtain ⟨eq10, xq10⟩ := hq10
        rw [eq10]
        have f9 := rgT (q10.1)
        refine Ok.eq (fun c10 => ?_) (fun c10 => ?_)
        · exact Ok.ret ⟨j, trivial⟩
        · refine Ok.bind (sf_X10_look (h0 := h0) n h 30 (by omega) j sc_30) (fun q13 hq13 => ?_)
          obtain ⟨jq13, xq13⟩ := hq13
          have f11 := rgT (x1)
          have f12 := rgT (x2)
          have f13 := rgT (hi q13 30 3)
          refine Ok.bind (sf_X10_fewestMown (h0 := h0) n q13 x1 x2 x3 (hi q13 30 3) (by omega) jq13 (by omega)) (fun q15 hq15 => ?_)
          obtain ⟨eq15, xq15⟩ := hq15
          rw [eq15]
          have f14 := rgT (q15.1)
          refine Ok.eqV rfl lit_m1 (fun c15 => ?_) (fun c15 => ?_)
          · exact Ok.ret ⟨jq13, trivial⟩
          · have f16 := rgT (x4)
            refine Ok.eq (fun c17 => ?_) (fun c17 => ?_)
            · refine Ok.bind (sf_J6_bitCount_0f7a4 (h0 := h0) n q13 q15.1 (by omega) jq13 ) (fun q19 hq19 => ?_)
              obtain ⟨eq19, xq19⟩ := hq19
              rw [eq19]
              exact Ok.ret ⟨jq13, trivial⟩
            · exact Ok.ret ⟨jq13, trivial⟩
