/-! the class comes to its end, 16 -/
set_option maxRecDepth 100000 in
set_option maxHeartbeats 4000000 in
theorem sfW_J7_fill_60_5 {h0 : Hp} : ∀ (n : Nat), (∀ (h : Hp) (b1 : Nat) (l1 : Int32) (l2 : Int32) (l3 : Int32), J h0 h → ncO b1 = true → 0 ≤ l2.toInt → l3.toInt = 60 → (1 : Int) < n → (1 : Int) + (60 - l2.toInt) < n → Ok (W_J7_fill_60 n 5 h b1 l1 l2 l3) (fun q => J h0 q ∧ True)) := by
  intro n
  induction n with
  | zero => intro h b1 l1 l2 l3 j p0 i0 i1 hB hM; exfalso; omega
  | succ n ih =>
    intro h b1 l1 l2 l3 j p0 i0 i1 hB hM
    rw [u_J7_fill_60]
    refine Ok.pos rfl ?_
    have f1 := rgT (l3)
    have f2 := rgT (l2)
    refine Ok.le (fun c3 => ?_) (fun c3 => ?_)
    · exact Ok.ret ⟨j, trivial⟩
    · refine Ok.chk (ixT (by omega) (by omega)) (fun c4 => ?_)
      generalize eg5 : wrI h b1 (Int32.toNatClampNeg l2) l1 = g5
      have jg5 : J h0 g5 := JwI eg5 j (ncO_nc p0)
      have f6 := lit_1
      first | have f7 := adT (l2) (1) (by omega) (by omega) | have f7 := adT (l2) (1)
      have f8 := rgT (l2 + 1)
      exact ih g5 b1 l1 (l2 + 1) l3 jg5 p0 (by omega) (by omega) (by omega) (by omega)
set_option maxRecDepth 100000 in
set_option maxHeartbeats 4000000 in
theorem sf_J7_fill_60 {h0 : Hp} (n : Nat) (h : Hp) (b1 : Nat) (x2 : Int32) (hn : 17179869185 ≤ n) (j : J h0 h) (p0 : ncO b1 = true) : Ok (F_J7_fill_60 n h b1 x2) (fun q => J h0 q ∧ True) := by
  unfold F_J7_fill_60
  have f1 := lit_0
  have f2 := lit_60
  exact sfW_J7_fill_60_5 (h0 := h0) n h b1 x2 0 60 j p0 (by omega) (by omega) (by omega) (by omega)
set_option maxRecDepth 100000 in
set_option maxHeartbeats 4000000 in
theorem sfG_X10_look_41 {h0 : Hp} : ∀ (n : Nat), (∀ (h : Hp) (b1 : Nat) (l2 : Int32) (l3 : Int32) (l4 : Int32) (l5 : Int32) (l6 : Int32), J h0 h → Sc b1 → (1 : Int) < n → (1 : Int) + (200 * (25 - l2.toInt)) < n → Ok (W_X10_look n 41 h b1 l2 l3 l4 l5 l6) (fun q => J h0 q ∧ True)) ∧ (∀ (h : Hp) (b1 : Nat) (l2 : Int32) (l3 : Int32) (l4 : Int32) (l5 : Int32) (l6 : Int32), J h0 h → Sc b1 → 0 ≤ l6.toInt → l6.toInt ≤ 100 → l2.toInt < 25 → l5.toInt ≤ 15 → (1 : Int) < n → (1 : Int) + (200 * (25 - l2.toInt) - 40 - l6.toInt) < n → Ok (W_X10_look n 73 h b1 l2 l3 l4 l5 l6) (fun q => J h0 q ∧ True)) := by
  intro n
  induction n with
  | zero => exact ⟨by intro h b1 l2 l3 l4 l5 l6 j ht1 hB hM; exfalso; omega, by intro h b1 l2 l3 l4 l5 l6 j ht1 i0 i1 i2 i3 hB hM; exfalso; omega⟩
  | succ n ih =>
    refine ⟨?_, ?_⟩
    · intro h b1 l2 l3 l4 l5 l6 j ht1 hB hM
      rw [u_X10_look]
      refine Ok.pos rfl ?_
      have f1 := lit_25
      have f2 := rgT (l2)
      refine Ok.le (fun c3 => ?_) (fun c3 => ?_)
      · exact Ok.ret ⟨j, trivial⟩
      · have f4 := rgT (l3)
        have f5 := lit_0
        refine Ok.eq (fun c6 => ?_) (fun c6 => ?_)
        · exact Ok.ret ⟨j, trivial⟩
        · refine Ok.bind (sf_X11_lowest (h0 := h0) n h l3 (by omega) j ) (fun q3 hq3 => ?_)
          obtain ⟨eq3, xq3⟩ := hq3
          rw [eq3]
          refine Ok.bind (sf_X8_beatOf (h0 := h0) n h b1 q3.1 (by omega) j ht1) (fun q5 hq5 => ?_)
          obtain ⟨eq5, xq5⟩ := hq5
          rw [eq5]
          refine Ok.bind (sf_X8_offsetOf (h0 := h0) n h b1 q3.1 (by omega) j ht1) (fun q7 hq7 => ?_)
          obtain ⟨eq7, xq7⟩ := hq7
          rw [eq7]
          have f7 := rgT (q5.1)
          have f8 := rgT (q7.1)
          exact ih.2 h b1 l2 l3 q3.1 q5.1 q7.1 j ht1 (by omega) (by omega) (by omega) (by omega) (by omega) (by omega)
    · intro h b1 l2 l3 l4 l5 l6 j ht1 i0 i1 i2 i3 hB hM
      rw [u_X10_look]
      refine Ok.neg (by decide) ?_
      refine Ok.pos rfl ?_
      have f1 := lit_60
      have f2 := rgT (l6)
      refine Ok.le (fun c3 => ?_) (fun c3 => ?_)
      · have f4 := rgT (l2)
        have f5 := lit_1
        first | have f6 := adT (l2) (1) (by omega) (by omega) | have f6 := adT (l2) (1)
        have f7 := rgT (l2 + 1)
        exact ih.1 h b1 (l2 + 1) ((l3 : Int32) &&& ((l3 - 1) : Int32)) 0 0 0 j ht1  (by omega) (by omega)
      · have f8 := rgT (l5)
        have f9 := lit_0
        refine Ok.le (fun c10 => ?_) (fun c10 => ?_)
        · have f11 := rgT (l2)
          have f12 := lit_1
          first | have f13 := adT (l2) (1) (by omega) (by omega) | have f13 := adT (l2) (1)
          have f14 := rgT (l2 + 1)
          exact ih.1 h b1 (l2 + 1) ((l3 : Int32) &&& ((l3 - 1) : Int32)) 0 0 0 j ht1  (by omega) (by omega)
        · refine Ok.chk (ixT (by omega) (by omega)) (fun c15 => ?_)
          refine Ok.pos c15 ?_
          generalize eg16 : wrI h 205 (Int32.toNatClampNeg l6) (((hi h 205 (Int32.toNatClampNeg l6)) : Int32) ||| (((1 : Int32) <<< ((l4 : Int32) &&& 31)) : Int32)) = g16
          have jg16 : J h0 g16 := JwI eg16 j (ncO_nc (by decide))
          have f17 := rgT (l2)
          first | have f18 := adT (l6) (l5) (by omega) (by omega) | have f18 := adT (l6) (l5)
          have f19 := rgT (l6 + l5)
          exact ih.2 g16 b1 l2 l3 l4 l5 (l6 + l5) jg16 ht1 (by omega) (by omega) (by omega) (by omega) (by omega) (by omega)
theorem sfW_X10_look_41 {h0 : Hp} (n : Nat) : ∀ (h : Hp) (b1 : Nat) (l2 : Int32) (l3 : Int32) (l4 : Int32) (l5 : Int32) (l6 : Int32), J h0 h → Sc b1 → (1 : Int) < n → (1 : Int) + (200 * (25 - l2.toInt)) < n → Ok (W_X10_look n 41 h b1 l2 l3 l4 l5 l6) (fun q => J h0 q ∧ True) := (sfG_X10_look_41 (h0 := h0) n).1
theorem sfW_X10_look_73 {h0 : Hp} (n : Nat) : ∀ (h : Hp) (b1 : Nat) (l2 : Int32) (l3 : Int32) (l4 : Int32) (l5 : Int32) (l6 : Int32), J h0 h → Sc b1 → 0 ≤ l6.toInt → l6.toInt ≤ 100 → l2.toInt < 25 → l5.toInt ≤ 15 → (1 : Int) < n → (1 : Int) + (200 * (25 - l2.toInt) - 40 - l6.toInt) < n → Ok (W_X10_look n 73 h b1 l2 l3 l4 l5 l6) (fun q => J h0 q ∧ True) := (sfG_X10_look_41 (h0 := h0) n).2
set_option maxRecDepth 100000 in
set_option maxHeartbeats 4000000 in
theorem sf_X10_look {h0 : Hp} (n : Nat) (h : Hp) (b1 : Nat) (hn : 34359738369 ≤ n) (j : J h0 h) (ht1 : Sc b1) : Ok (F_X10_look n h b1) (fun q => J h0 q ∧ True) := by
  unfold F_X10_look
  generalize eg1 : wrI h 204 3 (((hi h 24 2) : Int32) &&& ((((hi h b1 2) : Int32) ^^^ ((-1) : Int32)) : Int32)) = g1
  have jg1 : J h0 g1 := JwI eg1 j (by decide)
  generalize eg2 : wrI g1 204 4 (hi g1 b1 0) = g2
  have jg2 : J h0 g2 := JwI eg2 jg1 (by decide)
  have f3 := lit_0
  refine Ok.bind (sf_J7_fill_60 (h0 := h0) n g2 205 0 (by omega) jg2 (by decide)) (fun q13 hq13 => ?_)
  obtain ⟨jq13, xq13⟩ := hq13
  exact sfW_X10_look_41 (h0 := h0) n q13 b1 0 (hi q13 b1 3) 0 0 0 jq13 ht1  (by omega) (by omega)
theorem sf_J9_floorMod_7cf53 {h0 : Hp} (n : Nat) (h : Hp) (x1 x2 : Int32) (hn : 1 ≤ n) (j : J h0 h) (p0 : x2.toInt = 60) : Ok (F_J9_floorMod_7cf53 n h x1 x2) (fun q => q.2 = h ∧ (0 ≤ q.1.toInt ∧ q.1.toInt < 60)) := by
  have e60 : x2 = 60 := Int32.toInt_inj.mp (by rw [p0]; decide)
  subst e60
  have hx := rgT x1
  have hr := rmA x1 60
  rw [show (60 : Int32).toInt = 60 by decide] at hr
  have ha : (x1.toInt.tmod 60).natAbs = x1.toInt.natAbs % 60 := Int.natAbs_tmod x1.toInt 60
  have hs : 0 ≤ x1.toInt → 0 ≤ x1.toInt.tmod 60 := fun q => Int.tmod_nonneg _ q
  have hz : (x1 ^^^ 60).toInt < 0 ↔ x1.toInt < 0 := by
    have hb : (x1.toBitVec ^^^ (60 : Int32).toBitVec).msb = x1.toBitVec.msb := by
      rw [BitVec.msb_xor, show (60 : Int32).toBitVec.msb = false by decide, Bool.xor_false]
    rw [BitVec.msb_eq_toInt, BitVec.msb_eq_toInt] at hb
    exact decide_eq_decide.mp hb
  unfold F_J9_floorMod_7cf53
  refine Ok.div (by decide) ?_
  have e0 : (0 : Int32).toInt = 0 := by decide
  have e6 : (60 : Int32).toInt = 60 := by decide
  refine Ok.le (fun c1 => ?_) (fun c1 => ?_)
  · refine Ok.ret ⟨rfl, ?_⟩
    show 0 ≤ (x1 - x1 / 60 * 60).toInt ∧ (x1 - x1 / 60 * 60).toInt < 60
    omega
  · refine Ok.eq (fun c2 => ?_) (fun c2 => ?_)
    · refine Ok.ret ⟨rfl, ?_⟩
      show 0 ≤ (x1 - x1 / 60 * 60).toInt ∧ (x1 - x1 / 60 * 60).toInt < 60
      omega
    · refine Ok.ret ⟨rfl, ?_⟩
      show 0 ≤ (x1 - x1 / 60 * 60 + 60).toInt ∧ (x1 - x1 / 60 * 60 + 60).toInt < 60
      have f := adT (x1 - x1 / 60 * 60) 60
      have hneg : x1.toInt.tmod 60 ≤ 0 := by
        have : x1.toInt ≤ 0 := by omega
        have h5 := Int.tmod_nonneg 60 (show 0 ≤ -x1.toInt by omega)
        rw [Int.neg_tmod] at h5
        omega
      omega
set_option maxRecDepth 100000 in
set_option maxHeartbeats 4000000 in
theorem sf_X10_quietAt {h0 : Hp} (n : Nat) (h : Hp) (x1 : Int32) (x2 : Int32) (hn : 1 ≤ n) (j : J h0 h) : Ok (F_X10_quietAt n h x1 x2) (fun q => q.2 = h ∧ True) := by
  unfold F_X10_quietAt
  have f1 := rgT (x1)
  have f2 := lit_60
  refine Ok.bind (sf_J9_floorMod_7cf53 (h0 := h0) n h x1 60 (by omega) j (by omega)) (fun q1 hq1 => ?_)
  obtain ⟨eq1, xq1⟩ := hq1
  rw [eq1]
  have f3 := rgT (q1.1)
  refine Ok.chk (ixT (by omega) (by omega)) (fun c4 => ?_)
  exact Ok.ret ⟨rfl, trivial⟩
set_option maxRecDepth 100000 in
set_option maxHeartbeats 4000000 in
theorem sf_X10_onwards {h0 : Hp} (n : Nat) (h : Hp) (x1 : Int32) (x2 : Int32) (x3 : Int32) (hn : 1 ≤ n) (j : J h0 h) : Ok (F_X10_onwards n h x1 x2 x3) (fun q => q.2 = h ∧ True) := by
  unfold F_X10_onwards
  refine Ok.bind (sf_X3_grown (h0 := h0) n h 24 x1 (by omega) j fd_24) (fun q1 hq1 => ?_)
  obtain ⟨eq1, xq1⟩ := hq1
  rw [eq1]
  refine Ok.bind (sf_X10_quietAt (h0 := h0) n h x2 x3 (by omega) j ) (fun q3 hq3 => ?_)
  obtain ⟨eq3, xq3⟩ := hq3
  rw [eq3]
  exact Ok.ret ⟨rfl, trivial⟩
set_option maxRecDepth 100000 in
set_option maxHeartbeats 4000000 in
theorem sfW_X10_findMeeting_12 {h0 : Hp} : ∀ (n : Nat), (∀ (h : Hp) (l1 : Int32) (l2 : Int32) (l3 : Int32) (l4 : Int32) (l5 : Int32), J h0 h → (1 : Int) < n → (1 : Int) + (101 - l5.toInt) < n → Ok (W_X10_findMeeting n 12 h l1 l2 l3 l4 l5) (fun q => J h0 q.2 ∧ True)) := by
  intro n
  induction n with
  | zero => intro h l1 l2 l3 l4 l5 j hB hM; exfalso; omega
  | succ n ih =>
    intro h l1 l2 l3 l4 l5 j hB hM
    rw [u_X10_findMeeting]
    refine Ok.pos rfl ?_
    have f1 := lit_100
    have f2 := rgT (l5)
    refine Ok.lt (fun c3 => ?_) (fun c3 => ?_)
    · exact Ok.ret ⟨j, trivial⟩
    · have f4 := rgT ((l3 : Int32) &&& (l4 : Int32))
      have f5 := lit_0
      refine Ok.eq (fun c6 => ?_) (fun c6 => ?_)
      · refine Ok.bind (sf_X10_onwards (h0 := h0) n h l3 (((hi h 204 4) + l5) + 1) 0 (by omega) j ) (fun q3 hq3 => ?_)
        obtain ⟨eq3, xq3⟩ := hq3
        rw [eq3]
        refine Ok.bind (sf_X10_onwards (h0 := h0) n h l4 (((hi h 204 4) + l5) + 1) 0 (by omega) j ) (fun q5 hq5 => ?_)
        obtain ⟨eq5, xq5⟩ := hq5
        rw [eq5]
        have f7 := lit_1
        first | have f8 := adT (l5) (1) (by omega) (by omega) | have f8 := adT (l5) (1)
        have f9 := rgT (l5 + 1)
        exact ih h l1 l2 q3.1 q5.1 (l5 + 1) j   (by omega) (by omega)
      · generalize eg10 : wrI h 204 5 l5 = g10
        have jg10 : J h0 g10 := JwI eg10 j (by decide)
        refine Ok.bind (sf_X11_lowest (h0 := h0) n g10 ((l3 : Int32) &&& (l4 : Int32)) (by omega) jg10 ) (fun q7 hq7 => ?_)
        obtain ⟨eq7, xq7⟩ := hq7
        rw [eq7]
        generalize eg11 : wrI g10 204 6 q7.1 = g11
        have jg11 : J h0 g11 := JwI eg11 jg10 (by decide)
        exact Ok.ret ⟨jg11, trivial⟩
set_option maxRecDepth 100000 in
set_option maxHeartbeats 4000000 in
theorem sf_X10_findMeeting {h0 : Hp} (n : Nat) (h : Hp) (x1 : Int32) (x2 : Int32) (hn : 17179869185 ≤ n) (j : J h0 h) : Ok (F_X10_findMeeting n h x1 x2) (fun q => J h0 q.2 ∧ True) := by
  unfold F_X10_findMeeting
  have f1 := lit_0
  exact sfW_X10_findMeeting_12 (h0 := h0) n h x1 x2 ((1 : Int32) <<< ((x1 : Int32) &&& 31)) ((1 : Int32) <<< ((x2 : Int32) &&& 31)) 0 j   (by omega) (by omega)
set_option maxRecDepth 100000 in
set_option maxHeartbeats 4000000 in
theorem sf_X11_meet {h0 : Hp} (n : Nat) (h : Hp) (x1 : Int32) (x2 : Int32) (x3 : Int32) (hn : 34359738369 ≤ n) (j : J h0 h) : Ok (F_X11_meet n h x1 x2 x3) (fun q => J h0 q.2 ∧ True) := by
  unfold F_X11_meet
  have f1 := rgT (x1)
  refine Ok.bind (sf_X0_hasGoer (h0 := h0) n h 23 x1 (by omega) j bd_23) (fun q1 hq1 => ?_)
  obtain ⟨eq1, xq1⟩ := hq1
  rw [eq1]
  have f2 := rgT (q1.1)
  have f3 := lit_0
  refine Ok.eq (fun c4 => ?_) (fun c4 => ?_)
  · exact Ok.ret ⟨j, trivial⟩
  · have f5 := rgT (x2)
    refine Ok.bind (sf_X0_hasGoer (h0 := h0) n h 23 x2 (by omega) j bd_23) (fun q4 hq4 => ?_)
    obtain ⟨eq4, xq4⟩ := hq4
    rw [eq4]
    have f6 := rgT (q4.1)
    refine Ok.eq (fun c7 => ?_) (fun c7 => ?_)
    · exact Ok.ret ⟨j, trivial⟩
    · refine Ok.bind (sf_X11_isNoughtOrOne (h0 := h0) n h x3 (by omega) j ) (fun q7 hq7 => ?_)
      obtain ⟨eq7, xq7⟩ := hq7
      rw [eq7]
      have f8 := rgT (q7.1)
      refine Ok.eq (fun c9 => ?_) (fun c9 => ?_)
      · exact Ok.ret ⟨j, trivial⟩
      · refine Ok.bind (sf_X10_look (h0 := h0) n h 30 (by omega) j sc_30) (fun q10 hq10 => ?_)
        obtain ⟨jq10, xq10⟩ := hq10
        refine Ok.chk (ixT (by omega) (by omega)) (fun c10 => ?_)
        refine Ok.chk (ixT (by omega) (by omega)) (fun c11 => ?_)
        refine Ok.bind (sf_X10_findMeeting (h0 := h0) n q10 (hi q10 32 (Int32.toNatClampNeg x1)) (hi q10 32 (Int32.toNatClampNeg x2)) (by omega) jq10 ) (fun q14 hq14 => ?_)
        obtain ⟨jq14, xq14⟩ := hq14
        have f12 := rgT (q14.1)
        refine Ok.eq (fun c13 => ?_) (fun c13 => ?_)
        · exact Ok.ret ⟨jq14, trivial⟩
        · have f14 := rgT (x3)
          refine Ok.eq (fun c15 => ?_) (fun c15 => ?_)
          · exact Ok.ret ⟨jq14, trivial⟩
          · exact Ok.ret ⟨jq14, trivial⟩
set_option maxRecDepth 100000 in
set_option maxHeartbeats 4000000 in
theorem sfW_X10_fewest_8 {h0 : Hp} : ∀ (n : Nat), (∀ (h : Hp) (l1 : Int32) (l2 : Int32) (l3 : Int32) (l4 : Int32) (l5 : Int32) (l6 : Int32) (l7 : Int32), J h0 h → l5.toInt ≤ 100 → 0 ≤ l7.toInt → (1 : Int) < n → (1 : Int) + (101 - l7.toInt) < n → Ok (W_X10_fewest n 8 h l1 l2 l3 l4 l5 l6 l7) (fun q => q.2 = h ∧ (-1 ≤ q.1.toInt ∧ q.1.toInt ≤ 100))) := by
  intro n
  induction n with
  | zero => intro h l1 l2 l3 l4 l5 l6 l7 j i0 i1 hB hM; exfalso; omega
  | succ n ih =>
    intro h l1 l2 l3 l4 l5 l6 l7 j i0 i1 hB hM
    rw [u_X10_fewest]
    refine Ok.pos rfl ?_
    have f1 := rgT (l5)
    have f2 := rgT (l7)
    refine Ok.lt (fun c3 => ?_) (fun c3 => ?_)
    · have f4 := lit_m1
      refine Ok.ret ⟨rfl, ?_⟩
      show (-1 ≤ ((-1) : Int32).toInt ∧ ((-1) : Int32).toInt ≤ 100)
      omega
    · have f5 := rgT (l6)
      have f6 := lit_0
      refine Ok.eq (fun c7 => ?_) (fun c7 => ?_)
      · have f8 := lit_m1
        refine Ok.ret ⟨rfl, ?_⟩
        show (-1 ≤ ((-1) : Int32).toInt ∧ ((-1) : Int32).toInt ≤ 100)
        omega
      · have f9 := and_rg ((((l6 : Int32).toUInt32 >>> ((l2 : Int32).toUInt32 &&& Int32.toUInt32 31)).toInt32) : Int32) (1 : Int32) 1 lit_1 (by decide)
        refine Ok.eq (fun c10 => ?_) (fun c10 => ?_)
        · refine Ok.bind (sf_X10_onwards (h0 := h0) n h l6 ((l3 + l7) + 1) l4 (by omega) j ) (fun q4 hq4 => ?_)
          obtain ⟨eq4, xq4⟩ := hq4
          rw [eq4]
          have f11 := lit_1
          first | have f12 := adT (l7) (1) (by omega) (by omega) | have f12 := adT (l7) (1)
          have f13 := rgT (l7 + 1)
          exact ih h l1 l2 l3 l4 l5 q4.1 (l7 + 1) j  (by omega) (by omega) (by omega) (by omega)
        · refine Ok.ret ⟨rfl, ?_⟩
          show (-1 ≤ ((l7) : Int32).toInt ∧ ((l7) : Int32).toInt ≤ 100)
          omega
set_option maxRecDepth 100000 in
set_option maxHeartbeats 4000000 in
theorem sf_X10_fewest {h0 : Hp} (n : Nat) (h : Hp) (x1 : Int32) (x2 : Int32) (x3 : Int32) (x4 : Int32) (x5 : Int32) (hn : 17179869185 ≤ n) (j : J h0 h) (p0 : x5.toInt ≤ 100) : Ok (F_X10_fewest n h x1 x2 x3 x4 x5) (fun q => q.2 = h ∧ (-1 ≤ q.1.toInt ∧ q.1.toInt ≤ 100)) := by
  unfold F_X10_fewest
  have f1 := rgT (x5)
  have f2 := lit_0
  exact sfW_X10_fewest_8 (h0 := h0) n h x1 x2 x3 x4 x5 ((1 : Int32) <<< ((x1 : Int32) &&& 31)) 0 j  (by omega) (by omega) (by omega) (by omega)
set_option maxRecDepth 100000 in
set_option maxHeartbeats 4000000 in
theorem sfW_X10_lookBack_12 {h0 : Hp} : ∀ (n : Nat), (∀ (h : Hp) (l1 : Int32) (l2 : Int32) (l3 : Int32) (l4 : Int32), J h0 h → l4.toInt ≤ 100 → (1 : Int) < n → (1 : Int) + (l4.toInt + 1) < n → Ok (W_X10_lookBack n 12 h l1 l2 l3 l4) (fun q => J h0 q ∧ True)) := by
  intro n
  induction n with
  | zero => intro h l1 l2 l3 l4 j i0 hB hM; exfalso; omega
  | succ n ih =>
    intro h l1 l2 l3 l4 j i0 hB hM
    rw [u_X10_lookBack]
    refine Ok.pos rfl ?_
    have f1 := rgT (l4)
    have f2 := lit_0
    refine Ok.lt (fun c3 => ?_) (fun c3 => ?_)
    · exact Ok.ret ⟨j, trivial⟩
    · refine Ok.chk (ixT (by omega) (by omega)) (fun c4 => ?_)
      generalize eg5 : wrI h 206 (Int32.toNatClampNeg l4) l3 = g5
      have jg5 : J h0 g5 := JwI eg5 j (ncO_nc (by decide))
      refine Ok.bind (sf_X10_quietAt (h0 := h0) n g5 ((hi g5 204 4) + l4) 0 (by omega) jg5 ) (fun q3 hq3 => ?_)
      obtain ⟨eq3, xq3⟩ := hq3
      rw [eq3]
      refine Ok.bind (sf_X3_grown (h0 := h0) n g5 24 ((l3 : Int32) &&& (q3.1 : Int32)) (by omega) jg5 fd_24) (fun q5 hq5 => ?_)
      obtain ⟨eq5, xq5⟩ := hq5
      rw [eq5]
      generalize ey6 : (l4 + (-1) : Int32) = y6
      first | have f7 := adG ey6 rfl lit_m1 (by omega) (by omega) | have f7 := adG ey6 rfl lit_m1
      have f8 := rgT (y6)
      exact ih g5 l1 l2 q5.1 y6 jg5  (by omega) (by omega) (by omega)
