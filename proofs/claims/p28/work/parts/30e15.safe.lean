section
/-! the class comes to its end, 16 -/
set_option maxRecDepth 100000 in
set_option maxHeartbeats 4000000 in
theorem sfW_J7_fill_60_5 {h0 : Hp} : ∀ (n : Nat), (∀ (h : Hp) (b1 : Nat) (l1 : Int32) (l2 : Int32) (l3 : Int32), J h0 h → ncO b1 = true → 0 ≤ l2.toInt → l3.toInt = 60 → (1 : Int) < n → (1 : Int) + (60 - l2.toInt) < n → Ok (W_J7_fill_60 n 5 h b1 l1 l2 l3) (fun q => J h0 q ∧ True)) := by
  intro n
  induction n with
  | zero => intro h b1 l1 l2 l3 j p0 i0 i1 hB hM; exfalso; omega
  | succ n ih =>
    intro h b1 l1 l2 l3 j p0 i0 i1 hB hM
    rw [u_J7_fill_60]
    refine Ok.pos rfl ?_
    have f1 := rgT (l3)
    have f2 := rgT (l2)
    refine Ok.le (fun c3 => ?_) (fun c3 => ?_)
    · exact Ok.ret ⟨j, trivial⟩
    · refine Ok.chk (ixT (by omega) (by omega)) (fun c4 => ?_)
      generalize eg5 : wrI h b1 (Int32.toNatClampNeg l2) l1 = g5
      have jg5 : J h0 g5 := JwI eg5 j (ncO_nc p0)
      have f6 := lit_1
      first | have f7 := adT (l2) (1) (by omega) (by omega) | have f7 := adT (l2) (1)
      have f8 := rgT (l2 + 1)
      exact ih g5 b1 l1 (l2 + 1) l3 jg5 p0 (by omega) (by omega) (by omega) (by omega)
set_option maxRecDepth 100000 in
set_option maxHeartbeats 4000000 in
theorem sf_J7_fill_60 {h0 : Hp} (n : Nat) (h : Hp) (b1 : Nat) (x2 : Int32) (hn : 17179869185 ≤ n) (j : J h0 h) (p0 : ncO b1 = true) : Ok (F_J7_fill_60 n h b1 x2) (fun q => J h0 q ∧ True) := by
  unfold F_J7_fill_60
  have f1 := lit_0
  have f2 := lit_60
  exact sfW_J7_fill_60_5 (h0 := h0) n h b1 x2 0 60 j p0 (by omega) (by omega) (by omega) (by omega)
set_option maxRecDepth 100000 in
set_option maxHeartbeats 4000000 in
theorem sfG_X10_look_41 {h0 : Hp} : ∀ (n : Nat), (∀ (h : Hp) (b1 : Nat) (l2 : Int32) (l3 : Int32) (l4 : Int32) (l5 : Int32) (l6 : Int32), J h0 h → Sc b1 → (1 : Int) < n → (1 : Int) + (200 * (25 - l2.toInt)) < n → Ok (W_X10_look n 41 h b1 l2 l3 l4 l5 l6) (fun q => J h0 q ∧ True)) ∧ (∀ (h : Hp) (b1 : Nat) (l2 : Int32) (l3 : Int32) (l4 : Int32) (l5 : Int32) (l6 : Int32), J h0 h → Sc b1 → 0 ≤ l6.toInt → l6.toInt ≤ 100 → l2.toInt < 25 → l5.toInt ≤ 15 → (1 : Int) < n → (1 : Int) + (200 * (25 - l2.toInt) - 40 - l6.toInt) < n → Ok (W_X10_look n 73 h b1 l2 l3 l4 l5 l6) (fun q => J h0 q ∧ True)) := by
  intro n
  induction n with
  | zero => exact ⟨by intro h b1 l2 l3 l4 l5 l6 j ht1 hB hM; exfalso; omega, by intro h b1 l2 l3 l4 l5 l6 j ht1 i0 i1 i2 i3 hB hM; exfalso; omega⟩
  | succ n ih =>
    refine ⟨?_, ?_⟩
    · intro h b1 l2 l3 l4 l5 l6 j ht1 hB hM
      rw [u_X10_look]
      refine Ok.pos rfl ?_
      have f1 := lit_25
      have f2 := rgT (l2)
      refine Ok.le (fun c3 => ?_) (fun c3 => ?_)
      · exact Ok.ret ⟨j, trivial⟩
      · have f4 := rgT (l3)
        have f5 := lit_0
        refine Ok.eq (fun c6 => ?_) (fun c6 => ?_)
        · exact Ok.ret ⟨j, trivial⟩
        · refine Ok.bind (sf_X11_lowest (h0 := h0) n h l3 (by omega) j ) (fun q3 hq3 => ?_)
          obtain ⟨eq3, xq3⟩ := hq3
          rw [eq3]
          refine Ok.bind (sf_X8_beatOf (h0 := h0) n h b1 q3.1 (by omega) j ht1) (fun q5 hq5 => ?_)
          obtain ⟨eq5, xq5⟩ := hq5
          rw [eq5]
          refine Ok.bind (sf_X8_offsetOf (h0 := h0) n h b1 q3.1 (by omega) j ht1) (fun q7 hq7 => ?_)
          obtain ⟨eq7, xq7⟩ := hq7
          rw [eq7]
          have f7 := rgT (q5.1)
          have f8 := rgT (q7.1)
          exact ih.2 h b1 l2 l3 q3.1 q5.1 q7.1 j ht1 (by omega) (by omega) (by omega) (by omega) (by omega) (by omega)
    · intro h b1 l2 l3 l4 l5 l6 j ht1 i0 i1 i2 i3 hB hM
      rw [u_X10_look]
      refine Ok.neg (by decide) ?_
      refine Ok.pos rfl ?_
      have f1 := lit_60
      have f2 := rgT (l6)
      refine Ok.le (fun c3 => ?_) (fun c3 => ?_)
      · have f4 := rgT (l2)
        have f5 := lit_1
        first | have f6 := adT (l2) (1) (by omega) (by omega) | have f6 := adT (l2) (1)
        have f7 := rgT (l2 + 1)
        exact ih.1 h b1 (l2 + 1) ((l3 : Int32) &&& ((l3 - 1) : Int32)) 0 0 0 j ht1  (by omega) (by omega)
      · have f8 := rgT (l5)
        have f9 := lit_0
        refine Ok.le (fun c10 => ?_) (fun c10 => ?_)
        · have f11 := rgT (l2)
          have f12 := lit_1
          first | have f13 := adT (l2) (1) (by omega) (by omega) | have f13 := adT (l2) (1)
          have f14 := rgT (l2 + 1)
          exact ih.1 h b1 (l2 + 1) ((l3 : Int32) &&& ((l3 - 1) : Int32)) 0 0 0 j ht1  (by omega) (by omega)
        · refine Ok.chk (ixT (by omega) (by omega)) (fun c15 => ?_)
          refine Ok.pos c15 ?_
          generalize eg16 : wrI h 205 (Int32.toNatClampNeg l6) (((hi h 205 (Int32.toNatClampNeg l6)) : Int32) ||| (((1 : Int32) <<< ((l4 : Int32) &&& 31)) : Int32)) = g16
          have jg16 : J h0 g16 := JwI eg16 j (ncO_nc (by decide))
          have f17 := rgT (l2)
          first | have f18 := adT (l6) (l5) (by omega) (by omega) | have f18 := adT (l6) (l5)
          have f19 := rgT (l6 + l5)
          exact ih.2 g16 b1 l2 l3 l4 l5 (l6 + l5) jg16 ht1 (by omega) (by omega) (by omega) (by omega) (by omega) (by omega)
theorem sfW_X10_look_41 {h0 : Hp} (n : Nat) : ∀ (h : Hp) (b1 : Nat) (l2 : Int32) (l3 : Int32) (l4 : Int32) (l5 : Int32) (l6 : Int32), J h0 h → Sc b1 → (1 : Int) < n → (1 : Int) + (200 * (25 - l2.toInt)) < n → Ok (W_X10_look n 41 h b1 l2 l3 l4 l5 l6) (fun q => J h0 q ∧ True) := (sfG_X10_look_41 (h0 := h0) n).1
theorem sfW_X10_look_73 {h0 : Hp} (n : Nat) : ∀ (h : Hp) (b1 : Nat) (l2 : Int32) (l3 : Int32) (l4 : Int32) (l5 : Int32) (l6 : Int32), J h0 h → Sc b1 → 0 ≤ l6.toInt → l6.toInt ≤ 100 → l2.toInt < 25 → l5.toInt ≤ 15 → (1 : Int) < n → (1 : Int) + (200 * (25 - l2.toInt) - 40 - l6.toInt) < n → Ok (W_X10_look n 73 h b1 l2 l3 l4 l5 l6) (fun q => J h0 q ∧ True) := (sfG_X10_look_41 (h0 := h0) n).2
set_option maxRecDepth 100000 in
set_option maxHeartbeats 4000000 in
theorem sf_X10_look {h0 : Hp} (n : Nat) (h : Hp) (b1 : Nat) (hn : 34359738369 ≤ n) (j : J h0 h) (ht1 : Sc b1) : Ok (F_X10_look n h b1) (fun q => J h0 q ∧ True) := by
  unfold F_X10_look
  generalize eg1 : wrI h 204 3 (((hi h 24 2) : Int32) &&& ((((hi h b1 2) : Int32) ^^^ ((-1) : Int32)) : Int32)) = g1
  have jg1 : J h0 g1 := JwI eg1 j (by decide)
  generalize eg2 : wrI g1 204 4 (hi g1 b1 0) = g2
  have jg2 : J h0 g2 := JwI eg2 jg1 (by decide)
  have f3 := lit_0
  refine Ok.bind (sf_J7_fill_60 (h0 := h0) n g2 205 0 (by omega) jg2 (by decide)) (fun q13 hq13 => ?_)
  obtain ⟨jq13, xq13⟩ := hq13
  exact sfW_X10_look_41 (h0 := h0) n q13 b1 0 (hi q13 b1 3) 0 0 0 jq13 ht1  (by omega) (by omega)
theorem sf_J9_floorMod_7cf53 {h0 : Hp} (n : Nat) (h : Hp) (x1 x2 : Int32) (hn : 1 ≤ n) (j : J h0 h) (p0 : x2.toInt = 60) : Ok (F_J9_floorMod_7cf53 n h x1 x2) (fun q => q.2 = h ∧ (0 ≤ q.1.toInt ∧ q.1.toInt < 60)) := by
  have e60 : x2 = 60 := Int32.toInt_inj.mp (by rw [p0]; decide)
  subst e60
  have hx := rgT x1
  have hr := rmA x1 60
  rw [show (60 : Int32).toInt = 60 by decide] at hr
  have ha : (x1.toInt.tmod 60).natAbs = x1.toInt.natAbs % 60 := Int.natAbs_tmod x1.toInt 60
  have hs : 0 ≤ x1.toInt → 0 ≤ x1.toInt.tmod 60 := fun q => Int.tmod_nonneg _ q
  have hz : (x1 ^^^ 60).toInt < 0 ↔ x1.toInt < 0 := by
    have hb : (x1.toBitVec ^^^ (60 : Int32).toBitVec).msb = x1.toBitVec.msb := by
      rw [BitVec.msb_xor, show (60 : Int32).toBitVec.msb = false by decide, Bool.xor_false]
    rw [BitVec.msb_eq_toInt, BitVec.msb_eq_toInt] at hb
    exact decide_eq_decide.mp hb
  unfold F_J9_floorMod_7cf53
  refine Ok.div (by decide) ?_
  have e0 : (0 : Int32).toInt = 0 := by decide
  have e6 : (60 : Int32).toInt = 60 := by decide
  refine Ok.le (fun c1 => ?_) (fun c1 => ?_)
  · refine Ok.ret ⟨rfl, ?_⟩
    show 0 ≤ (x1 - x1 / 60 * 60).toInt ∧ (x1 - x1 / 60 * 60).toInt < 60
    omega
  · refine Ok.eq (fun c2 => ?_) (fun c2 => ?_)
    · refine Ok.ret ⟨rfl, ?_⟩
      show 0 ≤ (x1 - x1 / 60 * 60).toInt ∧ (x1 - x1 / 60 * 60).toInt < 60
      omega
    · refine Ok.ret ⟨rfl, ?_⟩
      show 0 ≤ (x1 - x1 / 60 * 60 + 60).toInt ∧ (x1 - x1 / 60 * 60 + 60).toInt < 60
      have f := adT (x1 - x1 / 60 * 60) 60
      have hneg : x1.toInt.tmod 60 ≤ 0 := by
        have : x1.toInt ≤ 0 := by omega
        have h5 := Int.tmod_nonneg 60 (show 0 ≤ -x1.toInt by omega)
        rw [Int.neg_tmod] at h5
        omega
      omega
set_option maxRecDepth 100000 in
set_option maxHeartbeats 4000000 in
theorem sf_X10_quietAt {h0 : Hp} (n : Nat) (h : Hp) (x1 : Int32) (x2 : Int32) (hn : 1 ≤ n) (j : J h0 h) : Ok (F_X10_quietAt n h x1 x2) (fun q => q.2 = h ∧ True) := by
  unfold F_X10_quietAt
  have f1 := rgT (x1)
  have f2 := lit_60
  refine Ok.bind (sf_J9_floorMod_7cf53 (h0 := h0) n h x1 60 (by omega) j (by omega)) (fun q1 hq1 => ?_)
  obtain ⟨eq1, xq1⟩ := hq1
  rw [eq1]
  have f3 := rgT (q1.1)
  refine Ok.chk (ixT (by omega) (by omega)) (fun c4 => ?_)
  exact Ok.ret ⟨rfl, trivial⟩
set_option maxRecDepth 100000 in
set_option maxHeartbeats 4000000 in
theorem sf_X10_onwards {h0 : Hp} (n : Nat) (h : Hp) (x1 : Int32) (x2 : Int32) (x3 : Int32) (hn : 1 ≤ n) (j : J h0 h) : Ok (F_X10_onwards n h x1 x2 x3) (fun q => q.2 = h ∧ True) := by
  unfold F_X10_onwards
  refine Ok.bind (sf_X3_grown (h0 := h0) n h 24 x1 (by omega) j fd_24) (fun q1 hq1 => ?_)
  obtain ⟨eq1, xq1⟩ := hq1
  rw [eq1]
  refine Ok.bind (sf_X10_quietAt (h0 := h0) n h x2 x3 (by omega) j ) (fun q3 hq3 => ?_)
  obtain ⟨eq3, xq3⟩ := hq3
  rw [eq3]
  exact Ok.ret ⟨rfl, trivial⟩
set_option maxRecDepth 100000 in
set_option maxHeartbeats 4000000 in
theorem sfW_X10_findMeeting_12 {h0 : Hp} : ∀ (n : Nat), (∀ (h : Hp) (l1 : Int32) (l2 : Int32) (l3 : Int32) (l4 : Int32) (l5 : Int32), J h0 h → (1 : Int) < n → (1 : Int) + (101 - l5.toInt) < n → Ok (W_X10_findMeeting n 12 h l1 l2 l3 l4 l5) (fun q => J h0 q.2 ∧ True)) := by
  intro n
  induction n with
  | zero => intro h l1 l2 l3 l4 l5 j hB hM; exfalso; omega
  | succ n ih =>
    intro h l1 l2 l3 l4 l5 j hB hM
    rw [u_X10_findMeeting]
    refine Ok.pos rfl ?_
    have f1 := lit_100
    have f2 := rgT (l5)
    refine Ok.lt (fun c3 => ?_) (fun c3 => ?_)
    · exact Ok.ret ⟨j, trivial⟩
    · have f4 := rgT ((l3 : Int32) &&& (l4 : Int32))
      have f5 := lit_0
      refine Ok.eq (fun c6 => ?_) (fun c6 => ?_)
      · refine Ok.bind (sf_X10_onwards (h0 := h0) n h l3 (((hi h 204 4) + l5) + 1) 0 (by omega) j ) (fun q3 hq3 => ?_)
        obtain ⟨eq3, xq3⟩ := hq3
        rw [eq3]
        refine Ok.bind (sf_X10_onwards (h0 := h0) n h l4 (((hi h 204 4) + l5) + 1) 0 (by omega) j ) (fun q5 hq5 => ?_)
        obtain ⟨eq5, xq5⟩ := hq5
        rw [eq5]
        have f7 := lit_1
        first | have f8 := adT (l5) (1) (by omega) (by omega) | have f8 := adT (l5) (1)
        have f9 := rgT (l5 + 1)
        exact ih h l1 l2 q3.1 q5.1 (l5 + 1) j   (by omega) (by omega)
      · generalize eg10 : wrI h 204 5 l5 = g10
        have jg10 : J h0 g10 := JwI eg10 j (by decide)
        refine Ok.bind (sf_X11_lowest (h0 := h0) n g10 ((l3 : Int32) &&& (l4 : Int32)) (by omega) jg10 ) (fun q7 hq7 => ?_)
        obtain ⟨eq7, xq7⟩ := hq7
        rw [eq7]
        generalize eg11 : wrI g10 204 6 q7.1 = g11
        have jg11 : J h0 g11 := JwI eg11 jg10 (by decide)
        exact Ok.ret ⟨jg11, trivial⟩
set_option maxRecDepth 100000 in
set_option maxHeartbeats 4000000 in
theorem sf_X10_findMeeting {h0 : Hp} (n : Nat) (h : Hp) (x1 : Int32) (x2 : Int32) (hn : 17179869185 ≤ n) (j : J h0 h) : Ok (F_X10_findMeeting n h x1 x2) (fun q => J h0 q.2 ∧ True) := by
  unfold F_X10_findMeeting
  have f1 := lit_0
  exact sfW_X10_findMeeting_12 (h0 := h0) n h x1 x2 ((1 : Int32) <<< ((x1 : Int32) &&& 31)) ((1 : Int32) <<< ((x2 : Int32) &&& 31)) 0 j   (by omega) (by omega)
set_option maxRecDepth 100000 in
set_option maxHeartbeats 4000000 in
theorem sf_X11_meet {h0 : Hp} (n : Nat) (h : Hp) (x1 : Int32) (x2 : Int32) (x3 : Int32) (hn : 34359738369 ≤ n) (j : J h0 h) : Ok (F_X11_meet n h x1 x2 x3) (fun q => J h0 q.2 ∧ True) := by
  unfold F_X11_meet
  have f1 := rgT (x1)
  refine Ok.bind (sf_X0_hasGoer (h0 := h0) n h 23 x1 (by omega) j bd_23) (fun q1 hq1 => ?_)
  obtain ⟨eq1, xq1⟩ := hq1
  rw [eq1]
  have f2 := rgT (q1.1)
  have f3 := lit_0
  refine Ok.eq (fun c4 => ?_) (fun c4 => ?_)
  · exact Ok.ret ⟨j, trivial⟩
  · have f5 := rgT (x2)
    refine Ok.bind (sf_X0_hasGoer (h0 := h0) n h 23 x2 (by omega) j bd_23) (fun q4 hq4 => ?_)
    obtain ⟨eq4, xq4⟩ := hq4
    rw [eq4]
    have f6 := rgT (q4.1)
    refine Ok.eq (fun c7 => ?_) (fun c7 => ?_)
    · exact Ok.ret ⟨j, trivial⟩
    · refine Ok.bind (sf_X11_isNoughtOrOne (h0 := h0) n h x3 (by omega) j ) (fun q7 hq7 => ?_)
      obtain ⟨eq7, xq7⟩ := hq7
      rw [eq7]
      have f8 := rgT (q7.1)
      refine Ok.eq (fun c9 => ?_) (fun c9 => ?_)
      · exact Ok.ret ⟨j, trivial⟩
      · refine Ok.bind (sf_X10_look (h0 := h0) n h 30 (by omega) j sc_30) (fun q10 hq10 => ?_)
        obtain ⟨jq10, xq10⟩ := hq10
        refine Ok.chk (ixT (by omega) (by omega)) (fun c10 => ?_)
        refine Ok.chk (ixT (by omega) (by omega)) (fun c11 => ?_)
        refine Ok.bind (sf_X10_findMeeting (h0 := h0) n q10 (hi q10 32 (Int32.toNatClampNeg x1)) (hi q10 32 (Int32.toNatClampNeg x2)) (by omega) jq10 ) (fun q14 hq14 => ?_)
        obtain ⟨jq14, xq14⟩ := hq14
        have f12 := rgT (q14.1)
        refine Ok.eq (fun c13 => ?_) (fun c13 => ?_)
        · exact Ok.ret ⟨jq14, trivial⟩
        · have f14 := rgT (x3)
          refine Ok.eq (fun c15 => ?_) (fun c15 => ?_)
          · exact Ok.ret ⟨jq14, trivial⟩
          · exact Ok.ret ⟨jq14, trivial⟩
set_option maxRecDepth 100000 in
set_option maxHeartbeats 4000000 in
theorem sfW_X10_fewest_8 {h0 : Hp} : ∀ (n : Nat), (∀ (h : Hp) (l1 : Int32) (l2 : Int32) (l3 : Int32) (l4 : Int32) (l5 : Int32) (l6 : Int32) (l7 : Int32), J h0 h → l5.toInt ≤ 100 → 0 ≤ l7.toInt → (1 : Int) < n → (1 : Int) + (101 - l7.toInt) < n → Ok (W_X10_fewest n 8 h l1 l2 l3 l4 l5 l6 l7) (fun q => q.2 = h ∧ (-1 ≤ q.1.toInt ∧ q.1.toInt ≤ 100))) := by
  intro n
  induction n with
  | zero => intro h l1 l2 l3 l4 l5 l6 l7 j i0 i1 hB hM; exfalso; omega
  | succ n ih =>
    intro h l1 l2 l3 l4 l5 l6 l7 j i0 i1 hB hM
    rw [u_X10_fewest]
    refine Ok.pos rfl ?_
    have f1 := rgT (l5)
    have f2 := rgT (l7)
    refine Ok.lt (fun c3 => ?_) (fun c3 => ?_)
    · have f4 := lit_m1
      refine Ok.ret ⟨rfl, ?_⟩
      show (-1 ≤ ((-1) : Int32).toInt ∧ ((-1) : Int32).toInt ≤ 100)
      omega
    · have f5 := rgT (l6)
      have f6 := lit_0
      refine Ok.eq (fun c7 => ?_) (fun c7 => ?_)
      · have f8 := lit_m1
        refine Ok.ret ⟨rfl, ?_⟩
        show (-1 ≤ ((-1) : Int32).toInt ∧ ((-1) : Int32).toInt ≤ 100)
        omega
      · have f9 := and_rg ((((l6 : Int32).toUInt32 >>> ((l2 : Int32).toUInt32 &&& Int32.toUInt32 31)).toInt32) : Int32) (1 : Int32) 1 lit_1 (by decide)
        refine Ok.eq (fun c10 => ?_) (fun c10 => ?_)
        · refine Ok.bind (sf_X10_onwards (h0 := h0) n h l6 ((l3 + l7) + 1) l4 (by omega) j ) (fun q4 hq4 => ?_)
          obtain ⟨eq4, xq4⟩ := hq4
          rw [eq4]
          have f11 := lit_1
          first | have f12 := adT (l7) (1) (by omega) (by omega) | have f12 := adT (l7) (1)
          have f13 := rgT (l7 + 1)
          exact ih h l1 l2 l3 l4 l5 q4.1 (l7 + 1) j  (by omega) (by omega) (by omega) (by omega)
        · refine Ok.ret ⟨rfl, ?_⟩
          show (-1 ≤ ((l7) : Int32).toInt ∧ ((l7) : Int32).toInt ≤ 100)
          omega
set_option maxRecDepth 100000 in
set_option maxHeartbeats 4000000 in
theorem sf_X10_fewest {h0 : Hp} (n : Nat) (h : Hp) (x1 : Int32) (x2 : Int32) (x3 : Int32) (x4 : Int32) (x5 : Int32) (hn : 17179869185 ≤ n) (j : J h0 h) (p0 : x5.toInt ≤ 100) : Ok (F_X10_fewest n h x1 x2 x3 x4 x5) (fun q => q.2 = h ∧ (-1 ≤ q.1.toInt ∧ q.1.toInt ≤ 100)) := by
  unfold F_X10_fewest
  have f1 := rgT (x5)
  have f2 := lit_0
  exact sfW_X10_fewest_8 (h0 := h0) n h x1 x2 x3 x4 x5 ((1 : Int32) <<< ((x1 : Int32) &&& 31)) 0 j  (by omega) (by omega) (by omega) (by omega)
set_option maxRecDepth 100000 in
set_option maxHeartbeats 4000000 in
theorem sfW_X10_lookBack_12 {h0 : Hp} : ∀ (n : Nat), (∀ (h : Hp) (l1 : Int32) (l2 : Int32) (l3 : Int32) (l4 : Int32), J h0 h → l4.toInt ≤ 100 → (1 : Int) < n → (1 : Int) + (l4.toInt + 1) < n → Ok (W_X10_lookBack n 12 h l1 l2 l3 l4) (fun q => J h0 q ∧ True)) := by
  intro n
  induction n with
  | zero => intro h l1 l2 l3 l4 j i0 hB hM; exfalso; omega
  | succ n ih =>
    intro h l1 l2 l3 l4 j i0 hB hM
    rw [u_X10_lookBack]
    refine Ok.pos rfl ?_
    have f1 := rgT (l4)
    have f2 := lit_0
    refine Ok.lt (fun c3 => ?_) (fun c3 => ?_)
    · exact Ok.ret ⟨j, trivial⟩
    · refine Ok.chk (ixT (by omega) (by omega)) (fun c4 => ?_)
      generalize eg5 : wrI h 206 (Int32.toNatClampNeg l4) l3 = g5
      have jg5 : J h0 g5 := JwI eg5 j (ncO_nc (by decide))
      refine Ok.bind (sf_X10_quietAt (h0 := h0) n g5 ((hi g5 204 4) + l4) 0 (by omega) jg5 ) (fun q3 hq3 => ?_)
      obtain ⟨eq3, xq3⟩ := hq3
      rw [eq3]
      refine Ok.bind (sf_X3_grown (h0 := h0) n g5 24 ((l3 : Int32) &&& (q3.1 : Int32)) (by omega) jg5 fd_24) (fun q5 hq5 => ?_)
      obtain ⟨eq5, xq5⟩ := hq5
      rw [eq5]
      generalize ey6 : (l4 + (-1) : Int32) = y6
      first | have f7 := adG ey6 rfl lit_m1 (by omega) (by omega) | have f7 := adG ey6 rfl lit_m1
      have f8 := rgT (y6)
      exact ih g5 l1 l2 q5.1 y6 jg5  (by omega) (by omega) (by omega)
end
section
/-! the class comes to its end, 17 -/
set_option maxRecDepth 100000 in
set_option maxHeartbeats 4000000 in
theorem sf_X10_lookBack {h0 : Hp} (n : Nat) (h : Hp) (x1 : Int32) (x2 : Int32) (hn : 17179869185 ≤ n) (j : J h0 h) : Ok (F_X10_lookBack n h x1 x2) (fun q => J h0 q ∧ True) := by
  unfold F_X10_lookBack
  have f1 := rgT (x2)
  have f2 := lit_100
  have f3 := miT (N := 100) (x2)
  have f4 := rgT (if 100 < x2 then 100 else x2)
  exact sfW_X10_lookBack_12 (h0 := h0) n h x1 x2 ((1 : Int32) <<< ((x1 : Int32) &&& 31)) (if 100 < x2 then 100 else x2) j  (by omega) (by omega) (by omega)
set_option maxRecDepth 100000 in
set_option maxHeartbeats 4000000 in
theorem sfW_X10_cellOnWay_12 {h0 : Hp} : ∀ (n : Nat), (∀ (h : Hp) (l1 : Int32) (l2 : Int32) (l3 : Int32) (l4 : Int32) (l5 : Int32) (l6 : Int32), J h0 h → 0 ≤ l6.toInt → (1 : Int) < n → (1 : Int) + (101 - l6.toInt) < n → Ok (W_X10_cellOnWay n 12 h l1 l2 l3 l4 l5 l6) (fun q => q.2 = h ∧ True)) := by
  intro n
  induction n with
  | zero => intro h l1 l2 l3 l4 l5 l6 j i0 hB hM; exfalso; omega
  | succ n ih =>
    intro h l1 l2 l3 l4 l5 l6 j i0 hB hM
    rw [u_X10_cellOnWay]
    refine Ok.pos rfl ?_
    have f1 := rgT (l4)
    have f2 := rgT (l6)
    refine Ok.lt (fun c3 => ?_) (fun c3 => ?_)
    · exact Ok.ret ⟨rfl, trivial⟩
    · have f4 := rgT (l3)
      refine Ok.lt (fun c5 => ?_) (fun c5 => ?_)
      · exact Ok.ret ⟨rfl, trivial⟩
      · have f6 := lit_100
        refine Ok.lt (fun c7 => ?_) (fun c7 => ?_)
        · exact Ok.ret ⟨rfl, trivial⟩
        · refine Ok.bind (sf_X10_onwards (h0 := h0) n h ((1 : Int32) <<< ((l5 : Int32) &&& 31)) ((hi h 204 4) + l6) 0 (by omega) j ) (fun q4 hq4 => ?_)
          obtain ⟨eq4, xq4⟩ := hq4
          rw [eq4]
          refine Ok.chk (ixT (by omega) (by omega)) (fun c8 => ?_)
          refine Ok.bind (sf_X11_lowest (h0 := h0) n h ((q4.1 : Int32) &&& ((hi h 206 (Int32.toNatClampNeg l6)) : Int32)) (by omega) j ) (fun q7 hq7 => ?_)
          obtain ⟨eq7, xq7⟩ := hq7
          rw [eq7]
          have f9 := lit_1
          first | have f10 := adT (l6) (1) (by omega) (by omega) | have f10 := adT (l6) (1)
          have f11 := rgT (l6 + 1)
          exact ih h l1 l2 l3 l4 q7.1 (l6 + 1) j  (by omega) (by omega) (by omega)
set_option maxRecDepth 100000 in
set_option maxHeartbeats 4000000 in
theorem sf_X10_cellOnWay {h0 : Hp} (n : Nat) (h : Hp) (x1 : Int32) (x2 : Int32) (x3 : Int32) (x4 : Int32) (hn : 17179869185 ≤ n) (j : J h0 h) : Ok (F_X10_cellOnWay n h x1 x2 x3 x4) (fun q => J h0 q.2 ∧ True) := by
  unfold F_X10_cellOnWay
  refine Ok.bind (sf_X10_lookBack (h0 := h0) n h x2 x3 (by omega) j ) (fun q9 hq9 => ?_)
  obtain ⟨jq9, xq9⟩ := hq9
  have f1 := lit_1
  exact (sfW_X10_cellOnWay_12 (h0 := h0) n q9 x1 x2 x3 x4 x1 1 jq9  (by omega) (by omega) (by omega)).mono (fun q hq => ⟨by rw [hq.1]; exact jq9, trivial⟩)
set_option maxRecDepth 100000 in
set_option maxHeartbeats 4000000 in
theorem sf_X11_way {h0 : Hp} (n : Nat) (h : Hp) (x1 : Int32) (x2 : Int32) (x3 : Int32) (hn : 34359738369 ≤ n) (j : J h0 h) : Ok (F_X11_way n h x1 x2 x3) (fun q => J h0 q.2 ∧ True) := by
  unfold F_X11_way
  refine Ok.bind (sf_X11_isFree (h0 := h0) n h x1 (by omega) j ) (fun q1 hq1 => ?_)
  obtain ⟨eq1, xq1⟩ := hq1
  rw [eq1]
  have f1 := rgT (q1.1)
  have f2 := lit_0
  refine Ok.eq (fun c3 => ?_) (fun c3 => ?_)
  · exact Ok.ret ⟨j, trivial⟩
  · refine Ok.bind (sf_X11_isFree (h0 := h0) n h x2 (by omega) j ) (fun q4 hq4 => ?_)
    obtain ⟨eq4, xq4⟩ := hq4
    rw [eq4]
    have f4 := rgT (q4.1)
    refine Ok.eq (fun c5 => ?_) (fun c5 => ?_)
    · exact Ok.ret ⟨j, trivial⟩
    · refine Ok.bind (sf_X10_look (h0 := h0) n h 30 (by omega) j sc_30) (fun q7 hq7 => ?_)
      obtain ⟨jq7, xq7⟩ := hq7
      have f6 := rgT (x1)
      have f7 := rgT (x2)
      have f8 := rgT (hi q7 30 0)
      have f9 := lit_100
      refine Ok.bind (sf_X10_fewest (h0 := h0) n q7 x1 x2 (hi q7 30 0) 0 100 (by omega) jq7 (by omega)) (fun q9 hq9 => ?_)
      obtain ⟨eq9, xq9⟩ := hq9
      rw [eq9]
      have f10 := rgT (q9.1)
      refine Ok.eqV rfl lit_m1 (fun c11 => ?_) (fun c11 => ?_)
      · exact Ok.ret ⟨jq7, trivial⟩
      · have f12 := rgT (x3)
        refine Ok.eqV rfl lit_m1 (fun c13 => ?_) (fun c13 => ?_)
        · exact Ok.ret ⟨jq7, trivial⟩
        · refine Ok.lt (fun c14 => ?_) (fun c14 => ?_)
          · exact Ok.ret ⟨jq7, trivial⟩
          · refine Ok.le (fun c15 => ?_) (fun c15 => ?_)
            · refine Ok.bind (sf_X10_cellOnWay (h0 := h0) n q7 x1 x2 q9.1 x3 (by omega) jq7 ) (fun q15 hq15 => ?_)
              obtain ⟨jq15, xq15⟩ := hq15
              exact Ok.ret ⟨jq15, trivial⟩
            · exact Ok.ret ⟨jq7, trivial⟩
set_option maxRecDepth 100000 in
set_option maxHeartbeats 4000000 in
theorem sfW_X10_bestWait_9 {h0 : Hp} : ∀ (n : Nat), (∀ (h : Hp) (l1 : Int32) (l2 : Int32) (l3 : Int32) (l4 : Int32) (l5 : Int32), J h0 h → l4.toInt ≤ 100 → (17179869185 : Int) < n → (17179869185 : Int) + (60 - l5.toInt) < n → Ok (W_X10_bestWait n 9 h l1 l2 l3 l4 l5) (fun q => q.2 = h ∧ True)) := by
  intro n
  induction n with
  | zero => intro h l1 l2 l3 l4 l5 j i0 hB hM; exfalso; omega
  | succ n ih =>
    intro h l1 l2 l3 l4 l5 j i0 hB hM
    rw [u_X10_bestWait]
    refine Ok.pos rfl ?_
    have f1 := lit_60
    have f2 := rgT (l5)
    refine Ok.le (fun c3 => ?_) (fun c3 => ?_)
    · exact Ok.ret ⟨rfl, trivial⟩
    · have f4 := rgT (l1)
      have f5 := rgT (l2)
      have f6 := rgT (hi h 204 4)
      first | have f7 := adT (hi h 204 4) (l5) (by omega) (by omega) | have f7 := adT (hi h 204 4) (l5)
      have f8 := rgT ((hi h 204 4) + l5)
      have f9 := lit_0
      have f10 := rgT (l4)
      refine Ok.bind (sf_X10_fewest (h0 := h0) n h l1 l2 ((hi h 204 4) + l5) 0 l4 (by omega) j (by omega)) (fun q2 hq2 => ?_)
      obtain ⟨eq2, xq2⟩ := hq2
      rw [eq2]
      have f11 := rgT (q2.1)
      refine Ok.eqV rfl lit_m1 (fun c12 => ?_) (fun c12 => ?_)
      · have f13 := lit_1
        first | have f14 := adT (l5) (1) (by omega) (by omega) | have f14 := adT (l5) (1)
        have f15 := rgT (l5 + 1)
        exact ih h l1 l2 l3 l4 (l5 + 1) j  (by omega) (by omega) (by omega)
      · have f16 := lit_1
        generalize ey17 : (q2.1 - 1 : Int32) = y17
        first | have f18 := sbG ey17 rfl rfl (by omega) (by omega) | have f18 := sbG ey17 rfl rfl
        have f19 := rgT (y17)
        first | have f20 := adT (l5) (1) (by omega) (by omega) | have f20 := adT (l5) (1)
        have f21 := rgT (l5 + 1)
        exact ih h l1 l2 l5 y17 (l5 + 1) j  (by omega) (by omega) (by omega)
set_option maxRecDepth 100000 in
set_option maxHeartbeats 4000000 in
theorem sf_X10_bestWait {h0 : Hp} (n : Nat) (h : Hp) (x1 : Int32) (x2 : Int32) (hn : 34359738369 ≤ n) (j : J h0 h) : Ok (F_X10_bestWait n h x1 x2) (fun q => q.2 = h ∧ True) := by
  unfold F_X10_bestWait
  have f1 := lit_100
  have f2 := lit_0
  exact sfW_X10_bestWait_9 (h0 := h0) n h x1 x2 (-1) 100 0 j  (by omega) (by omega) (by omega)
set_option maxRecDepth 100000 in
set_option maxHeartbeats 4000000 in
theorem sf_X11_leave {h0 : Hp} (n : Nat) (h : Hp) (x1 : Int32) (x2 : Int32) (x3 : Int32) (hn : 34359738369 ≤ n) (j : J h0 h) : Ok (F_X11_leave n h x1 x2 x3) (fun q => J h0 q.2 ∧ True) := by
  unfold F_X11_leave
  refine Ok.bind (sf_X11_isFree (h0 := h0) n h x1 (by omega) j ) (fun q1 hq1 => ?_)
  obtain ⟨eq1, xq1⟩ := hq1
  rw [eq1]
  have f1 := rgT (q1.1)
  have f2 := lit_0
  refine Ok.eq (fun c3 => ?_) (fun c3 => ?_)
  · exact Ok.ret ⟨j, trivial⟩
  · refine Ok.bind (sf_X11_isFree (h0 := h0) n h x2 (by omega) j ) (fun q4 hq4 => ?_)
    obtain ⟨eq4, xq4⟩ := hq4
    rw [eq4]
    have f4 := rgT (q4.1)
    refine Ok.eq (fun c5 => ?_) (fun c5 => ?_)
    · exact Ok.ret ⟨j, trivial⟩
    · refine Ok.bind (sf_X11_isNoughtOrOne (h0 := h0) n h x3 (by omega) j ) (fun q7 hq7 => ?_)
      obtain ⟨eq7, xq7⟩ := hq7
      rw [eq7]
      have f6 := rgT (q7.1)
      refine Ok.eq (fun c7 => ?_) (fun c7 => ?_)
      · exact Ok.ret ⟨j, trivial⟩
      · refine Ok.bind (sf_X10_look (h0 := h0) n h 30 (by omega) j sc_30) (fun q10 hq10 => ?_)
        obtain ⟨jq10, xq10⟩ := hq10
        refine Ok.bind (sf_X10_bestWait (h0 := h0) n q10 x1 x2 (by omega) jq10 ) (fun q12 hq12 => ?_)
        obtain ⟨eq12, xq12⟩ := hq12
        rw [eq12]
        have f8 := rgT (q12.1)
        refine Ok.eqV rfl lit_m1 (fun c9 => ?_) (fun c9 => ?_)
        · exact Ok.ret ⟨jq10, trivial⟩
        · have f10 := rgT (x3)
          refine Ok.eq (fun c11 => ?_) (fun c11 => ?_)
          · exact Ok.ret ⟨jq10, trivial⟩
          · have f12 := rgT (x1)
            have f13 := rgT (x2)
            have f14 := rgT (hi q10 30 0)
            first | have f15 := adT (hi q10 30 0) (q12.1) (by omega) (by omega) | have f15 := adT (hi q10 30 0) (q12.1)
            have f16 := rgT ((hi q10 30 0) + q12.1)
            have f17 := lit_100
            refine Ok.bind (sf_X10_fewest (h0 := h0) n q10 x1 x2 ((hi q10 30 0) + q12.1) 0 100 (by omega) jq10 (by omega)) (fun q16 hq16 => ?_)
            obtain ⟨eq16, xq16⟩ := hq16
            rw [eq16]
            exact Ok.ret ⟨jq10, trivial⟩
set_option maxRecDepth 100000 in
set_option maxHeartbeats 4000000 in
theorem sfW_X10_mownBy_6 {h0 : Hp} : ∀ (n : Nat), (∀ (h : Hp) (l1 : Int32) (l2 : Int32) (l3 : Int32) (l4 : Int32) (l5 : Int32) (l6 : Int32) (l7 : Int32), J h0 h → l4.toInt ≤ 100 → (17179869185 : Int) < n → (17179869185 : Int) + (256 - l7.toInt) < n → Ok (W_X10_mownBy n 6 h l1 l2 l3 l4 l5 l6 l7) (fun q => q.2 = h ∧ True)) := by
  intro n
  induction n with
  | zero => intro h l1 l2 l3 l4 l5 l6 l7 j i0 hB hM; exfalso; omega
  | succ n ih =>
    intro h l1 l2 l3 l4 l5 l6 l7 j i0 hB hM
    rw [u_X10_mownBy]
    refine Ok.pos rfl ?_
    have f1 := lit_256
    have f2 := rgT (l7)
    refine Ok.le (fun c3 => ?_) (fun c3 => ?_)
    · exact Ok.ret ⟨rfl, trivial⟩
    · have f4 := rgT (l6)
      have f5 := rgT (l5)
      refine Ok.eq (fun c6 => ?_) (fun c6 => ?_)
      · exact Ok.ret ⟨rfl, trivial⟩
      · refine Ok.bind (sf_J6_bitCount_0f7a4 (h0 := h0) n h l6 (by omega) j ) (fun q3 hq3 => ?_)
        obtain ⟨eq3, xq3⟩ := hq3
        rw [eq3]
        have f7 := rgT (q3.1)
        have f8 := rgT (l1)
        refine Ok.eq (fun c9 => ?_) (fun c9 => ?_)
        · have f10 := rgT (l2)
          have f11 := rgT (l3)
          have f12 := rgT (hi h 204 4)
          have f13 := rgT (l4)
          refine Ok.bind (sf_X10_fewest (h0 := h0) n h l2 l3 (hi h 204 4) l6 l4 (by omega) j (by omega)) (fun q6 hq6 => ?_)
          obtain ⟨eq6, xq6⟩ := hq6
          rw [eq6]
          have f14 := rgT (q6.1)
          refine Ok.eqV rfl lit_m1 (fun c15 => ?_) (fun c15 => ?_)
          · have f16 := lit_1
            first | have f17 := adT (l7) (1) (by omega) (by omega) | have f17 := adT (l7) (1)
            have f18 := rgT (l7 + 1)
            exact ih h l1 l2 l3 l4 l5 (((l6 - l5) : Int32) &&& (l5 : Int32)) (l7 + 1) j  (by omega) (by omega) (by omega)
          · exact Ok.ret ⟨rfl, trivial⟩
        · have f19 := rgT (l4)
          have f20 := lit_1
          first | have f21 := adT (l7) (1) (by omega) (by omega) | have f21 := adT (l7) (1)
          have f22 := rgT (l7 + 1)
          exact ih h l1 l2 l3 l4 l5 (((l6 - l5) : Int32) &&& (l5 : Int32)) (l7 + 1) j  (by omega) (by omega) (by omega)
set_option maxRecDepth 100000 in
set_option maxHeartbeats 4000000 in
theorem sf_X10_mownBy {h0 : Hp} (n : Nat) (h : Hp) (x1 : Int32) (x2 : Int32) (x3 : Int32) (x4 : Int32) (x5 : Int32) (hn : 34359738369 ≤ n) (j : J h0 h) (p0 : x4.toInt ≤ 100) : Ok (F_X10_mownBy n h x1 x2 x3 x4 x5) (fun q => q.2 = h ∧ True) := by
  unfold F_X10_mownBy
  have f1 := rgT (x4)
  have f2 := lit_0
  exact sfW_X10_mownBy_6 (h0 := h0) n h x1 x2 x3 x4 x5 0 0 j  (by omega) (by omega) (by omega)
set_option maxRecDepth 100000 in
set_option maxHeartbeats 4000000 in
theorem sfW_X10_fewestMown_22 {h0 : Hp} : ∀ (n : Nat), (∀ (h : Hp) (l1 : Int32) (l2 : Int32) (l3 : Int32) (l4 : Int32) (l5 : Int32), J h0 h → l3.toInt ≤ 100 → (34359738369 : Int) < n → (34359738369 : Int) + (64 - l5.toInt) < n → Ok (W_X10_fewestMown n 22 h l1 l2 l3 l4 l5) (fun q => q.2 = h ∧ True)) := by
  intro n
  induction n with
  | zero => intro h l1 l2 l3 l4 l5 j i0 hB hM; exfalso; omega
  | succ n ih =>
    intro h l1 l2 l3 l4 l5 j i0 hB hM
    rw [u_X10_fewestMown]
    refine Ok.pos rfl ?_
    refine Ok.bind (sf_J6_bitCount_0f7a4 (h0 := h0) n h l4 (by omega) j ) (fun q1 hq1 => ?_)
    obtain ⟨eq1, xq1⟩ := hq1
    rw [eq1]
    have f1 := rgT (q1.1)
    have f2 := rgT (l5)
    refine Ok.le (fun c3 => ?_) (fun c3 => ?_)
    · exact Ok.ret ⟨rfl, trivial⟩
    · have f4 := rgT (l1)
      have f5 := rgT (l2)
      have f6 := rgT (l3)
      have f7 := rgT (l4)
      refine Ok.bind (sf_X10_mownBy (h0 := h0) n h l5 l1 l2 l3 l4 (by omega) j (by omega)) (fun q4 hq4 => ?_)
      obtain ⟨eq4, xq4⟩ := hq4
      rw [eq4]
      have f8 := rgT (q4.1)
      refine Ok.eqV rfl lit_m1 (fun c9 => ?_) (fun c9 => ?_)
      · have f10 := lit_1
        first | have f11 := adT (l5) (1) (by omega) (by omega) | have f11 := adT (l5) (1)
        have f12 := rgT (l5 + 1)
        exact ih h l1 l2 l3 l4 (l5 + 1) j  (by omega) (by omega) (by omega)
      · exact Ok.ret ⟨rfl, trivial⟩
set_option maxRecDepth 100000 in
set_option maxHeartbeats 4000000 in
theorem sf_X10_fewestMown {h0 : Hp} (n : Nat) (h : Hp) (x1 : Int32) (x2 : Int32) (x3 : Int32) (x4 : Int32) (hn : 51539607553 ≤ n) (j : J h0 h) (p0 : x3.toInt ≤ 100) : Ok (F_X10_fewestMown n h x1 x2 x3 x4) (fun q => q.2 = h ∧ True) := by
  unfold F_X10_fewestMown
  have f1 := rgT (x1)
  have f2 := rgT (x2)
  have f3 := rgT (hi h 204 4)
  have f4 := rgT (x4)
  have f5 := rgT (x3)
  refine Ok.bind (sf_X10_fewest (h0 := h0) n h x1 x2 (hi h 204 4) x4 x3 (by omega) j (by omega)) (fun q7 hq7 => ?_)
  obtain ⟨eq7, xq7⟩ := hq7
  rw [eq7]
  have f6 := rgT (q7.1)
  refine Ok.eqV rfl lit_m1 (fun c7 => ?_) (fun c7 => ?_)
  · exact Ok.ret ⟨rfl, trivial⟩
  · have f8 := lit_0
    exact sfW_X10_fewestMown_22 (h0 := h0) n h x1 x2 x3 x4 0 j  (by omega) (by omega) (by omega)
set_option maxRecDepth 100000 in
set_option maxHeartbeats 4000000 in
theorem sf_X11_mows {h0 : Hp} (n : Nat) (h : Hp) (x1 : Int32) (x2 : Int32) (x3 : Int32) (x4 : Int32) (hn : 51539607553 ≤ n) (j : J h0 h) : Ok (F_X11_mows n h x1 x2 x3 x4) (fun q => J h0 q.2 ∧ True) := by
  unfold F_X11_mows
  refine Ok.bind (sf_X11_isFree (h0 := h0) n h x1 (by omega) j ) (fun q1 hq1 => ?_)
  obtain ⟨eq1, xq1⟩ := hq1
  rw [eq1]
  have f1 := rgT (q1.1)
  have f2 := lit_0
  refine Ok.eq (fun c3 => ?_) (fun c3 => ?_)
  · exact Ok.ret ⟨j, trivial⟩
  · refine Ok.bind (sf_X11_isFree (h0 := h0) n h x2 (by omega) j ) (fun q4 hq4 => ?_)
    obtain ⟨eq4, xq4⟩ := hq4
    rw [eq4]
    have f4 := rgT (q4.1)
    refine Ok.eq (fun c5 => ?_) (fun c5 => ?_)
    · exact Ok.ret ⟨j, trivial⟩
    · have f6 := rgT (x3)
      refine Ok.bind (sf_X11_isSpan (h0 := h0) n h x3 (by omega) j ) (fun q7 hq7 => ?_)
      obtain ⟨eq7, xq7⟩ := hq7
      rw [eq7]
      have f7 := rgT (q7.1)
      refine Ok.eq (fun c8 => ?_) (fun c8 => ?_)
      · exact Ok.ret ⟨j, trivial⟩
      · refine Ok.bind (sf_X11_isNoughtOrOne (h0 := h0) n h x4 (by omega) j ) (fun q10 hq10 => ?_)
        obtain ⟨eq10, xq10⟩ := hq10
        rw [eq10]
        have f9 := rgT (q10.1)
        refine Ok.eq (fun c10 => ?_) (fun c10 => ?_)
        · exact Ok.ret ⟨j, trivial⟩
        · refine Ok.bind (sf_X10_look (h0 := h0) n h 30 (by omega) j sc_30) (fun q13 hq13 => ?_)
          obtain ⟨jq13, xq13⟩ := hq13
          have f11 := rgT (x1)
          have f12 := rgT (x2)
          have f13 := rgT (hi q13 30 3)
          refine Ok.bind (sf_X10_fewestMown (h0 := h0) n q13 x1 x2 x3 (hi q13 30 3) (by omega) jq13 (by omega)) (fun q15 hq15 => ?_)
          obtain ⟨eq15, xq15⟩ := hq15
          rw [eq15]
          have f14 := rgT (q15.1)
          refine Ok.eqV rfl lit_m1 (fun c15 => ?_) (fun c15 => ?_)
          · exact Ok.ret ⟨jq13, trivial⟩
          · have f16 := rgT (x4)
            refine Ok.eq (fun c17 => ?_) (fun c17 => ?_)
            · refine Ok.bind (sf_J6_bitCount_0f7a4 (h0 := h0) n q13 q15.1 (by omega) jq13 ) (fun q19 hq19 => ?_)
              obtain ⟨eq19, xq19⟩ := hq19
              rw [eq19]
              exact Ok.ret ⟨jq13, trivial⟩
            · exact Ok.ret ⟨jq13, trivial⟩
end
section
/-! the class comes to its end, 18 -/
set_option maxRecDepth 100000 in
set_option maxHeartbeats 4000000 in
theorem sf_X5_keepIfLess {h0 : Hp} (n : Nat) (h : Hp) (x1 : Int32) (hn : 1 ≤ n) (j : J h0 h) : Ok (F_X5_keepIfLess n h x1) (fun q => J h0 q ∧ True) := by
  unfold F_X5_keepIfLess
  have f1 := rgT (hi h 211 3)
  refine Ok.eqV rfl lit_m1 (fun c2 => ?_) (fun c2 => ?_)
  · generalize eg3 : wrI h 211 3 x1 = g3
    have jg3 : J h0 g3 := JwI eg3 j (by decide)
    generalize eg4 : wrA g3 213 (cpF g3 212 213 5) = g4
    have jg4 : J h0 g4 := JwA eg4 jg3 (by decide)
    exact Ok.ret ⟨jg4, trivial⟩
  · have f5 := rgT (x1)
    refine Ok.le (fun c6 => ?_) (fun c6 => ?_)
    · exact Ok.ret ⟨j, trivial⟩
    · generalize eg7 : wrI h 211 3 x1 = g7
      have jg7 : J h0 g7 := JwI eg7 j (by decide)
      generalize eg8 : wrA g7 213 (cpF g7 212 213 5) = g8
      have jg8 : J h0 g8 := JwA eg8 jg7 (by decide)
      exact Ok.ret ⟨jg8, trivial⟩
set_option maxRecDepth 100000 in
set_option maxHeartbeats 4000000 in
theorem sf_X5_distance {h0 : Hp} (n : Nat) (h : Hp) (x1 : Int32) (x2 : Int32) (hn : 1 ≤ n) (j : J h0 h) : Ok (F_X5_distance n h x1 x2) (fun q => q.2 = h ∧ True) := by
  unfold F_X5_distance
  refine Ok.bind (sf_X3_leftOf (h0 := h0) n h 24 x1 (by omega) j fd_24) (fun q1 hq1 => ?_)
  obtain ⟨eq1, xq1⟩ := hq1
  rw [eq1]
  refine Ok.bind (sf_X3_leftOf (h0 := h0) n h 24 x2 (by omega) j fd_24) (fun q3 hq3 => ?_)
  obtain ⟨eq3, xq3⟩ := hq3
  rw [eq3]
  refine Ok.bind (sf_X3_topOf (h0 := h0) n h 24 x1 (by omega) j fd_24) (fun q5 hq5 => ?_)
  obtain ⟨eq5, xq5⟩ := hq5
  rw [eq5]
  refine Ok.bind (sf_X3_topOf (h0 := h0) n h 24 x2 (by omega) j fd_24) (fun q7 hq7 => ?_)
  obtain ⟨eq7, xq7⟩ := hq7
  rw [eq7]
  exact Ok.ret ⟨rfl, trivial⟩
set_option maxRecDepth 100000 in
set_option maxHeartbeats 4000000 in
theorem sfW_X5_pairOff_44 {h0 : Hp} {e : Nat} {S : Nat → Hp → Nat → Int32 → Int32 → Int32 → Option Hp} (hS : ∀ (n : Nat) (h : Hp) (b1 : Nat) (x2 x3 x4 : Int32), 17179869184 * (19 + e) ≤ n → J h0 h → Sc b1 → 0 ≤ x4.toInt → x4.toInt ≤ 6 → 7 - x4.toInt ≤ e - 1 → Ok (S n h b1 x2 x3 x4) (fun q => J h0 q ∧ True)) : ∀ (n : Nat), (∀ (h : Hp) (b1 : Nat) (l2 : Int32) (l3 : Int32) (l4 : Int32) (l5 : Int32) (l6 : Int32) (l7 : Int32), J h0 h → Sc b1 → 0 ≤ l5.toInt → l5.toInt < 5 → 0 ≤ l7.toInt → l4.toInt ≤ 5 → 0 ≤ l4.toInt → 7 - l4.toInt ≤ e → (17179869184 * (19 + e) : Int) < n → (17179869184 * (19 + e) : Int) + (5 - l7.toInt) < n → Ok (W_X5_pairOff S n 44 h b1 l2 l3 l4 l5 l6 l7) (fun q => J h0 q ∧ True)) := by
  intro n
  induction n with
  | zero => intro h b1 l2 l3 l4 l5 l6 l7 j ht1 i0 i1 i2 i3 i4 i5 hB hM; exfalso; omega
  | succ n ih =>
    intro h b1 l2 l3 l4 l5 l6 l7 j ht1 i0 i1 i2 i3 i4 i5 hB hM
    rw [u_X5_pairOff]
    refine Ok.pos rfl ?_
    have f1 := lit_5
    have f2 := rgT (l7)
    refine Ok.le (fun c3 => ?_) (fun c3 => ?_)
    · refine Ok.bind (sf_J6_bitCount_0f7a4 (h0 := h0) n h l2 (by omega) j ) (fun q2 hq2 => ?_)
      obtain ⟨eq2, xq2⟩ := hq2
      rw [eq2]
      have f4 := and_rg (q2.1 : Int32) (1 : Int32) 1 lit_1 (by decide)
      have f5 := lit_0
      refine Ok.eq (fun c6 => ?_) (fun c6 => ?_)
      · exact Ok.ret ⟨j, trivial⟩
      · have f7 := rgT (l5)
        refine Ok.chk (ixT (by omega) (by omega)) (fun c8 => ?_)
        generalize eg9 : wrI h 212 (Int32.toNatClampNeg l5) (-2) = g9
        have jg9 : J h0 g9 := JwI eg9 j (ncO_nc (by decide))
        have f10 := rgT (l6)
        have f11 := rgT (l3)
        have f12 := rgT (l4)
        have f13 := lit_1
        first | have f14 := adT (l4) (1) (by omega) (by omega) | have f14 := adT (l4) (1)
        have f15 := rgT (l4 + 1)
        refine Ok.bind (hS n g9 b1 l6 l3 (l4 + 1) (by omega) jg9 ht1 (by omega) (by omega) (by omega)) (fun q6 hq6 => ?_)
        obtain ⟨jq6, xq6⟩ := hq6
        exact Ok.ret ⟨jq6, trivial⟩
    · have f16 := and_rg ((((l6 : Int32).toUInt32 >>> ((l7 : Int32).toUInt32 &&& Int32.toUInt32 31)).toInt32) : Int32) (1 : Int32) 1 lit_1 (by decide)
      have f17 := lit_0
      refine Ok.eq (fun c18 => ?_) (fun c18 => ?_)
      · have f19 := rgT (l4)
        have f20 := rgT (l5)
        have f21 := lit_1
        first | have f22 := adT (l7) (1) (by omega) (by omega) | have f22 := adT (l7) (1)
        have f23 := rgT (l7 + 1)
        exact ih h b1 l2 l3 l4 l5 l6 (l7 + 1) j ht1 (by omega) (by omega) (by omega) (by omega) (by omega) (by omega) (by omega) (by omega)
      · have f24 := rgT (l5)
        refine Ok.chk (ixT (by omega) (by omega)) (fun c25 => ?_)
        refine Ok.chk (ixT (by omega) (by omega)) (fun c26 => ?_)
        refine Ok.pos c25 ?_
        refine Ok.pos c26 ?_
        generalize eg27 : wrI h 212 (Int32.toNatClampNeg l5) l7 = g27
        have jg27 : J h0 g27 := JwI eg27 j (ncO_nc (by decide))
        generalize eg28 : wrI g27 212 (Int32.toNatClampNeg l7) l5 = g28
        have jg28 : J h0 g28 := JwI eg28 jg27 (ncO_nc (by decide))
        refine Ok.bind (sf_X5_distance (h0 := h0) n g28 (hi g28 (b1 + 2) (Int32.toNatClampNeg l5)) (hi g28 (b1 + 2) (Int32.toNatClampNeg l7)) (by omega) jg28 ) (fun q13 hq13 => ?_)
        obtain ⟨eq13, xq13⟩ := hq13
        rw [eq13]
        have f29 := rgT ((l6 : Int32) &&& (((((1 : Int32) <<< ((l7 : Int32) &&& 31)) : Int32) ^^^ ((-1) : Int32)) : Int32))
        have f30 := rgT (l3)
        have f31 := rgT (q13.1)
        first | have f32 := adT (l3) (q13.1) (by omega) (by omega) | have f32 := adT (l3) (q13.1)
        have f33 := rgT (l3 + q13.1)
        have f34 := rgT (l4)
        have f35 := lit_1
        first | have f36 := adT (l4) (1) (by omega) (by omega) | have f36 := adT (l4) (1)
        have f37 := rgT (l4 + 1)
        refine Ok.bind (hS n g28 b1 ((l6 : Int32) &&& (((((1 : Int32) <<< ((l7 : Int32) &&& 31)) : Int32) ^^^ ((-1) : Int32)) : Int32)) (l3 + q13.1) (l4 + 1) (by omega) jg28 ht1 (by omega) (by omega) (by omega)) (fun q15 hq15 => ?_)
        obtain ⟨jq15, xq15⟩ := hq15
        first | have f38 := adT (l7) (1) (by omega) (by omega) | have f38 := adT (l7) (1)
        have f39 := rgT (l7 + 1)
        exact ih q15 b1 l2 l3 l4 l5 l6 (l7 + 1) jq15 ht1 (by omega) (by omega) (by omega) (by omega) (by omega) (by omega) (by omega) (by omega)
set_option maxRecDepth 100000 in
set_option maxHeartbeats 4000000 in
theorem sf_X5_pairOff {h0 : Hp} {e : Nat} {S : Nat → Hp → Nat → Int32 → Int32 → Int32 → Option Hp} (hS : ∀ (n : Nat) (h : Hp) (b1 : Nat) (x2 x3 x4 : Int32), 17179869184 * (19 + e) ≤ n → J h0 h → Sc b1 → 0 ≤ x4.toInt → x4.toInt ≤ 6 → 7 - x4.toInt ≤ e - 1 → Ok (S n h b1 x2 x3 x4) (fun q => J h0 q ∧ True)) (n : Nat) (h : Hp) (b1 : Nat) (x2 : Int32) (x3 : Int32) (x4 : Int32) (hn : 17179869184 * (20 + e) ≤ n) (j : J h0 h) (ht1 : Sc b1) (p0 : 0 ≤ x4.toInt) (p1 : x4.toInt ≤ 6) (p2 : 7 - x4.toInt ≤ e) : Ok (F_X5_pairOff S n h b1 x2 x3 x4) (fun q => J h0 q ∧ True) := by
  unfold F_X5_pairOff
  refine Ok.bind (sf_X11_lowest (h0 := h0) n h x2 (by omega) j ) (fun q17 hq17 => ?_)
  obtain ⟨eq17, xq17⟩ := hq17
  rw [eq17]
  have f1 := rgT (x2)
  have f2 := lit_0
  refine Ok.eq (fun c3 => ?_) (fun c3 => ?_)
  · refine Ok.bind (sf_X5_keepIfLess (h0 := h0) n h x3 (by omega) j ) (fun q20 hq20 => ?_)
    obtain ⟨jq20, xq20⟩ := hq20
    exact Ok.ret ⟨jq20, trivial⟩
  · have f4 := lit_5
    have f5 := rgT (q17.1)
    refine Ok.le (fun c6 => ?_) (fun c6 => ?_)
    · refine Ok.bind (sf_X5_keepIfLess (h0 := h0) n h x3 (by omega) j ) (fun q23 hq23 => ?_)
      obtain ⟨jq23, xq23⟩ := hq23
      exact Ok.ret ⟨jq23, trivial⟩
    · have f7 := rgT (x4)
      refine Ok.le (fun c8 => ?_) (fun c8 => ?_)
      · have f9 := lit_1
        first | have f10 := adT (q17.1) (1) (by omega) (by omega) | have f10 := adT (q17.1) (1)
        have f11 := rgT (q17.1 + 1)
        exact sfW_X5_pairOff_44 (h0 := h0) hS n h b1 x2 x3 x4 q17.1 ((x2 : Int32) &&& (((((1 : Int32) <<< ((q17.1 : Int32) &&& 31)) : Int32) ^^^ ((-1) : Int32)) : Int32)) (q17.1 + 1) j ht1 (by omega) (by omega) (by omega) (by omega) (by omega) (by omega) (by omega) (by omega)
      · refine Ok.bind (sf_X5_keepIfLess (h0 := h0) n h x3 (by omega) j ) (fun q26 hq26 => ?_)
        obtain ⟨jq26, xq26⟩ := hq26
        exact Ok.ret ⟨jq26, trivial⟩
theorem sfL_X5_pairOff {h0 : Hp} : ∀ (l : Nat) (n : Nat) (h : Hp) (b1 : Nat) (x2 x3 x4 : Int32), 17179869184 * (20 + l) ≤ n → J h0 h → Sc b1 → 0 ≤ x4.toInt → x4.toInt ≤ 6 → 7 - x4.toInt ≤ l → Ok (L_X5_pairOff l n h b1 x2 x3 x4) (fun q => J h0 q ∧ True) := by
  intro l
  induction l with
  | zero => intro n h b1 x2 x3 x4 hn j ht p0 p1 p2; exfalso; omega
  | succ l ih =>
    intro n h b1 x2 x3 x4 hn j ht p0 p1 p2
    show Ok (F_X5_pairOff (L_X5_pairOff l) n h b1 x2 x3 x4) _
    exact sf_X5_pairOff (h0 := h0) (e := l + 1) (fun n h b1 x2 x3 x4 hn j ht q0 q1 q2 => ih n h b1 x2 x3 x4 (by omega) j ht q0 q1 (by omega)) n h b1 x2 x3 x4 (by omega) j ht p0 p1 (by omega)
theorem sf_X5_pairOffT {h0 : Hp} (n : Nat) (h : Hp) (b1 : Nat) (x2 x3 x4 : Int32) (hn : 584115552256 ≤ n) (j : J h0 h) (ht1 : Sc b1) (p0 : x4.toInt = 0) : Ok (F_X5_pairOffT n h b1 x2 x3 x4) (fun q => J h0 q ∧ True) := by
  unfold F_X5_pairOffT
  exact sfL_X5_pairOff 8 n h b1 x2 x3 x4 (by omega) j ht1 (by omega) (by omega) (by omega)
set_option maxRecDepth 100000 in
set_option maxHeartbeats 4000000 in
theorem sf_X5_match {h0 : Hp} (n : Nat) (h : Hp) (b1 : Nat) (x2 : Int32) (hn : 584115552256 ≤ n) (j : J h0 h) (ht1 : Sc b1) : Ok (F_X5_match n h b1 x2) (fun q => J h0 q ∧ True) := by
  unfold F_X5_match
  generalize eg1 : wrI h 211 3 (-1) = g1
  have jg1 : J h0 g1 := JwI eg1 j (by decide)
  have f2 := rgT ((1 : Int32) <<< ((x2 : Int32) &&& 31))
  have f3 := lit_1
  generalize ey4 : (((1 : Int32) <<< ((x2 : Int32) &&& 31)) - 1 : Int32) = y4
  first | have f5 := sbG ey4 rfl rfl (by omega) (by omega) | have f5 := sbG ey4 rfl rfl
  have f6 := rgT (y4)
  have f7 := lit_0
  refine Ok.bind (sf_X5_pairOffT (h0 := h0) n g1 b1 y4 0 0 (by omega) jg1 ht1 (by omega)) (fun q1 hq1 => ?_)
  obtain ⟨jq1, xq1⟩ := hq1
  exact Ok.ret ⟨jq1, trivial⟩
set_option maxRecDepth 100000 in
set_option maxHeartbeats 4000000 in
theorem sf_X11_pairs {h0 : Hp} (n : Nat) (h : Hp) (x1 : Int32) (hn : 584115552256 ≤ n) (j : J h0 h) : Ok (F_X11_pairs n h x1) (fun q => J h0 q.2 ∧ True) := by
  unfold F_X11_pairs
  have f1 := rgT (x1)
  refine Ok.eqV rfl lit_m1 (fun c2 => ?_) (fun c2 => ?_)
  · refine Ok.bind (sf_X5_match (h0 := h0) n h 30 (hi h 23 2) (by omega) j sc_30) (fun q2 hq2 => ?_)
    obtain ⟨jq2, xq2⟩ := hq2
    refine Ok.eqV rfl lit_m1 (fun c3 => ?_) (fun c3 => ?_)
    · exact Ok.ret ⟨jq2, trivial⟩
    · refine Ok.chk (ixT (by omega) (by omega)) (fun c4 => ?_)
      exact Ok.ret ⟨jq2, trivial⟩
  · refine Ok.bind (sf_X0_hasGoer (h0 := h0) n h 23 x1 (by omega) j bd_23) (fun q6 hq6 => ?_)
    obtain ⟨eq6, xq6⟩ := hq6
    rw [eq6]
    have f5 := rgT (q6.1)
    have f6 := lit_0
    refine Ok.eq (fun c7 => ?_) (fun c7 => ?_)
    · exact Ok.ret ⟨j, trivial⟩
    · refine Ok.bind (sf_X5_match (h0 := h0) n h 30 (hi h 23 2) (by omega) j sc_30) (fun q9 hq9 => ?_)
      obtain ⟨jq9, xq9⟩ := hq9
      refine Ok.eqV rfl lit_m1 (fun c8 => ?_) (fun c8 => ?_)
      · exact Ok.ret ⟨jq9, trivial⟩
      · refine Ok.chk (ixT (by omega) (by omega)) (fun c9 => ?_)
        exact Ok.ret ⟨jq9, trivial⟩
set_option maxRecDepth 100000 in
set_option maxHeartbeats 4000000 in
theorem sf_X3_become {h0 : Hp} (n : Nat) (h : Hp) (a : Nat) (b1 : Nat) (hn : 1 ≤ n) (j : J h0 h) (hs : IsFd a) (ht1 : IsFd b1) : Ok (F_X3_become n h a b1) (fun q => J h0 q ∧ True) := by
  unfold F_X3_become
  generalize eg1 : wrI h a 0 (hi h b1 0) = g1
  have jg1 : J h0 g1 := JwI eg1 j (ncO_nc (fdO hs))
  generalize eg2 : wrI g1 a 1 (hi g1 b1 1) = g2
  have jg2 : J h0 g2 := JwI eg2 jg1 (ncO_nc (fdO hs))
  generalize eg3 : wrI g2 a 2 (hi g2 b1 2) = g3
  have jg3 : J h0 g3 := JwI eg3 jg2 (ncO_nc (fdO hs))
  generalize eg4 : wrI g3 a 3 (hi g3 b1 3) = g4
  have jg4 : J h0 g4 := JwI eg4 jg3 (ncO_nc (fdO hs))
  exact Ok.ret ⟨jg4, trivial⟩
set_option maxRecDepth 100000 in
set_option maxHeartbeats 4000000 in
theorem sf_X4_become {h0 : Hp} (n : Nat) (h : Hp) (a : Nat) (b1 : Nat) (hn : 1 ≤ n) (j : J h0 h) (hs : IsLw a) (ht1 : IsLw b1) : Ok (F_X4_become n h a b1) (fun q => J h0 q ∧ True) := by
  unfold F_X4_become
  generalize eg1 : wrI h a 3 (hi h b1 3) = g1
  have f2 := cR b1 3 0 404 (lwC ht1) j
  have f3 := rgT (hi h b1 3)
  have jg1 : J h0 g1 := JwC 0 404 eg1 j (lwC hs) ⟨by omega, by omega⟩ (lwNz hs)
  generalize eg4 : wrA g1 (a + 1) (cpF g1 (b1 + 1) (a + 1) 404) = g4
  have jg4 : J h0 g4 := JwA eg4 jg1 (lwO hs).2.1
  generalize eg5 : wrA g4 (a + 2) (cpF g4 (b1 + 2) (a + 2) 4) = g5
  have jg5 : J h0 g5 := JwA eg5 jg4 (lwO hs).2.2.1
  exact Ok.ret ⟨jg5, trivial⟩
set_option maxRecDepth 100000 in
set_option maxHeartbeats 4000000 in
theorem sf_X0_become {h0 : Hp} (n : Nat) (h : Hp) (a : Nat) (b1 : Nat) (hn : 1 ≤ n) (j : J h0 h) (hs : IsBd a) (ht1 : IsBd b1) : Ok (F_X0_become n h a b1) (fun q => J h0 q ∧ True) := by
  unfold F_X0_become
  refine Ok.bind (sf_X3_become (h0 := h0) n h (a + 1) (b1 + 1) (by omega) j hs.2.1 ht1.2.1) (fun q1 hq1 => ?_)
  obtain ⟨jq1, xq1⟩ := hq1
  refine Ok.bind (sf_X4_become (h0 := h0) n q1 (a + 2) (b1 + 2) (by omega) jq1 hs.2.2.1 ht1.2.2.1) (fun q3 hq3 => ?_)
  obtain ⟨jq3, xq3⟩ := hq3
  generalize eg1 : wrI q3 a 2 (hi q3 b1 2) = g1
  have f2 := cR b1 2 0 5 (bdC ht1) jq3
  have f3 := rgT (hi q3 b1 2)
  have jg1 : J h0 g1 := JwC 0 5 eg1 jq3 (bdC hs) ⟨by omega, by omega⟩ (bdNz hs)
  generalize eg4 : wrI g1 a 3 (hi g1 b1 3) = g4
  have jg4 : J h0 g4 := JwI eg4 jg1 (bdN 3 hs (by decide))
  generalize eg5 : wrI g4 a 4 (hi g4 b1 4) = g5
  have jg5 : J h0 g5 := JwI eg5 jg4 (bdN 4 hs (by decide))
  exact Ok.ret ⟨jg5, trivial⟩
end
section
/-! numbers -/
theorem lit_26 : (26 : Int32).toInt = 26 := by decide
theorem lit_63 : (63 : Int32).toInt = 63 := by decide
end
section
/-! THE REFERENCE, ASKED: what a call that only asks may write, and what it keeps to -/
def sA (a k : Nat) : Bool := a == 260 || a == 261 || a == 263 || a == 265 || a == 267 || a == 268 || a == 269 || a == 270 || (a == 226 && (k == 52 || k == 55 || k == 56))
def wdN (h : Hp) : Int := (hi h 235 (Int32.toNatClampNeg (hi h 226 18))).toInt
def hgN (h : Hp) : Int := (hi h 236 (Int32.toNatClampNeg (hi h 226 18))).toInt
def gnN (h : Hp) : Int := (hi h 242 (Int32.toNatClampNeg (hi h 226 18))).toInt
def cnN (h : Hp) : Int := wdN h * hgN h
/-- a row: BEATS, cells of goers -/
def rwO (c : Int) (f : Nat → Int32) : Prop := (∀ k, k < 25 → 0 ≤ (f k).toInt ∧ (f k).toInt ≤ 6) ∧ (∀ k, 51 ≤ k → k < 56 → 0 ≤ (f k).toInt ∧ (f k).toInt < c)
/-- an offset is below its beat -/
def ovO (f : Nat → Int32) : Prop := ∀ k, k < 25 → 0 < (f k).toInt → 0 ≤ (f (25 + k)).toInt ∧ (f (25 + k)).toInt < (f k).toInt
/-- the cell on a side -/
def sdv (w g c k : Nat) : Nat := if k = 1 then (if c % w + 1 < w then c + 1 else c) else if k = 2 then (if c + w < w * g then c + w else c) else if k = 3 then (if 0 < c % w then c - 1 else c) else if k = 4 then (if w ≤ c then c - w else c) else c
def sdO (h : Hp) : Prop := ∀ c k : Nat, (c : Int) < cnN h → k < 5 → (hi h 264 (5 * c + k)).toInt = ((sdv (wdN h).toNat (hgN h).toNat c k : Nat) : Int)
/-- how many lie on the pile behind m orders from s on -/
def dpO (c : Nat → Int32) (s : Nat) : Nat → Int
  | 0 => 0
  | m + 1 => dpO c s m + (if (c (s + m)).toInt < 2 then 1 else -1)
/-- the orders s .. e - 1 can be gone through -/
def ocO (c ci : Nat → Int32) (s e : Nat) : Prop := s ≤ e ∧ e ≤ 840 ∧ ∀ m, m < e - s → 0 ≤ dpO c s m ∧ dpO c s m ≤ 300 ∧ (2 ≤ (c (s + m)).toInt → 2 ≤ dpO c s m ∧ (c (s + m)).toInt ≤ 5) ∧ ((c (s + m)).toInt ≠ 0 → (c (s + m)).toInt < 2 → 0 ≤ (ci (s + m)).toInt ∧ (ci (s + m)).toInt < 9)
def oiO (c ci : Nat → Int32) (x y : Int32) : Prop := 0 ≤ x.toInt ∧ 0 ≤ y.toInt ∧ ocO c ci (Int32.toNatClampNeg x) (Int32.toNatClampNeg y)
/-- a branch's orders lie in the window of one side, whose number is L -/
def obO (L : Int) (h : Hp) (b : Nat) : Prop := ((vp_nar .boolean (hi h 252 b)).toInt ≠ 0 → oiO (hi h 257) (hi h 258) (hi h 253 b) (hi h 254 b) ∧ oiO (hi h 257) (hi h 258) (hi h 254 b) (hi h 255 b)) ∧ oiO (hi h 257) (hi h 258) (hi h 255 b) (hi h 256 b) ∧ 420 * L ≤ (hi h 255 b).toInt ∧ ((vp_nar .boolean (hi h 252 b)).toInt ≠ 0 → 420 * L ≤ (hi h 253 b).toInt) ∧ (hi h 256 b).toInt ≤ 420 * L + 420
def olO (L : Int) (h : Hp) (i : Nat) : Prop := (hi h 250 i).toInt = (hi h 251 i).toInt ∨ (130 * L ≤ (hi h 250 i).toInt ∧ (hi h 251 i).toInt ≤ 130 * L + 130 ∧ ∀ b : Nat, (hi h 250 i).toInt ≤ b → (b : Int) < (hi h 251 i).toInt → obO L h b)
def lwsO (h : Hp) : Prop := ∀ i : Nat, 4 * (hi h 226 18).toInt ≤ i → (i : Int) < 4 * (hi h 226 18).toInt + 4 → olO (hi h 226 18).toInt h i
def rS (h : Hp) : Prop := (0 ≤ (hi h 226 18).toInt ∧ (hi h 226 18).toInt ≤ 1) ∧ (2 ≤ wdN h ∧ wdN h ≤ 5) ∧ (2 ≤ hgN h ∧ hgN h ≤ 5) ∧ (0 ≤ gnN h ∧ gnN h ≤ 5) ∧ sdO h ∧ lwsO h ∧ rwO (cnN h) (hi h 262) ∧ ovO (hi h 262) ∧ (0 ≤ (hi h 226 65).toInt ∧ (hi h 226 65).toInt ≤ 20) ∧ (0 ≤ (hi h 226 59).toInt ∧ (hi h 226 59).toInt ≤ 40)
/-- what no asking changes -/
def kS (h0 h : Hp) : Prop := ∀ a k, sA a k = false → hi h a k = hi h0 a k
def sD (a k : Nat) : Bool := a == 260 || a == 261 || (a == 226 && k == 52)
/-- what a law's telling changes: nothing else -/
def jD (h0 h : Hp) : Prop := (∀ a k, sD a k = false → hi h a k = hi h0 a k) ∧ (∀ a k, hl h a k = hl h0 a k)
def jA (h0 h : Hp) : Prop := kS h0 h ∧ (∀ a k, hl h a k = hl h0 a k) ∧ rwO (cnN h0) (hi h 263) ∧ ovO (hi h 263) ∧ (∀ k, -1 ≤ (hi h 265 k).toInt ∧ (hi h 265 k).toInt < 25)
theorem sDA {a k : Nat} (h : sA a k = false) : sD a k = false := by
  simp only [sA, sD, Bool.or_eq_false_iff, Bool.and_eq_false_iff, beq_eq_false_iff_ne] at h ⊢
  obtain ⟨⟨⟨⟨⟨⟨⟨⟨h1, h2⟩, -⟩, -⟩, -⟩, -⟩, -⟩, -⟩, h3⟩ := h
  refine ⟨⟨h1, h2⟩, ?_⟩
  rcases h3 with h3 | h3
  · exact Or.inl h3
  · exact Or.inr h3.1.1
theorem jD.ks {h0 h : Hp} (j : jD h0 h) : kS h0 h := fun a k q => j.1 a k (sDA q)
theorem jA.ks {h0 h : Hp} (j : jA h0 h) : kS h0 h := j.1
theorem jD.rf (h : Hp) : jD h h := ⟨fun _ _ _ => rfl, fun _ _ => rfl⟩
theorem jD.tr {h0 h1 h2 : Hp} (a : jD h0 h1) (b : jD h1 h2) : jD h0 h2 := ⟨fun x k q => (b.1 x k q).trans (a.1 x k q), fun x k => (b.2 x k).trans (a.2 x k)⟩
theorem jD.at {h0 h : Hp} (j : jD h0 h) (a : Nat) (n : ∀ k, sD a k = false) : hi h a = hi h0 a := funext fun k => j.1 a k (n k)
theorem jD.rw {h0 h : Hp} (j : jD h0 h) (r : rwO (cnN h0) (hi h0 263)) : rwO (cnN h0) (hi h 263) := by
  rw [j.at 263 (fun _ => rfl)]
  exact r
theorem cnR {h : Hp} (s : rS h) : 4 ≤ cnN h ∧ cnN h ≤ 25 := by
  have h1 := s.2.1
  have h2 := s.2.2.1
  unfold cnN
  generalize wdN h = w at h1
  generalize hgN h = g at h2
  rcases (show w = 2 ∨ w = 3 ∨ w = 4 ∨ w = 5 by omega) with rfl | rfl | rfl | rfl <;> omega
theorem cnNat {h : Hp} (s : rS h) : (((wdN h).toNat * (hgN h).toNat : Nat) : Int) = cnN h := by
  have h1 := s.2.1
  have h2 := s.2.2.1
  unfold cnN
  rw [Int.natCast_mul, Int.toNat_of_nonneg (by omega), Int.toNat_of_nonneg (by omega)]
def sdOk (w g c k : Nat) : Bool := !decide (c < w * g) || (decide (sdv w g c k < w * g) && ((decide (sdv w g (sdv w g c k) 0 = c) || (decide (sdv w g (sdv w g c k) 1 = c) || (decide (sdv w g (sdv w g c k) 2 = c) || (decide (sdv w g (sdv w g c k) 3 = c) || decide (sdv w g (sdv w g c k) 4 = c))))) && ((!decide (k = 0) || decide (sdv w g c k = c)) && (!decide (k = 1) || (decide (sdv w g c k = c) || decide (sdv w g c k = c + 1))))))
set_option maxRecDepth 100000 in
theorem sdOk_all : ∀ w, w < 6 → ∀ g, g < 6 → ∀ c, c < 25 → ∀ k, k < 5 → sdOk w g c k = true := by decide +kernel
theorem sdv_all (w : Nat) (hw : w < 6) (g : Nat) (hg : g < 6) (c : Nat) (hc : c < 25) (k : Nat) (hk : k < 5) (h : c < w * g) : sdv w g c k < w * g ∧ (sdv w g (sdv w g c k) 0 = c ∨ sdv w g (sdv w g c k) 1 = c ∨ sdv w g (sdv w g c k) 2 = c ∨ sdv w g (sdv w g c k) 3 = c ∨ sdv w g (sdv w g c k) 4 = c) ∧ (k = 0 → sdv w g c k = c) ∧ (k = 1 → sdv w g c k = c ∨ sdv w g c k = c + 1) := by
  have q := sdOk_all w hw g hg c hc k hk
  simp only [sdOk, Bool.or_eq_true, Bool.and_eq_true, decide_eq_true_eq, Bool.not_eq_true', decide_eq_false_iff_not] at q
  rcases q with q | ⟨q1, q2, q3, q4⟩
  · exact absurd h q
  · exact ⟨q1, q2, fun z => q3.resolve_left (fun w => w z), fun z => q4.resolve_left (fun w => w z)⟩
theorem sdv_at {h : Hp} (s : rS h) {c k : Nat} (hc : (c : Int) < cnN h) (hk : k < 5) : ((sdv (wdN h).toNat (hgN h).toNat c k : Nat) : Int) < cnN h ∧ (∃ k', k' < 5 ∧ sdv (wdN h).toNat (hgN h).toNat (sdv (wdN h).toNat (hgN h).toNat c k) k' = c) ∧ (k = 0 → sdv (wdN h).toNat (hgN h).toNat c k = c) ∧ (k = 1 → sdv (wdN h).toNat (hgN h).toNat c k = c ∨ sdv (wdN h).toNat (hgN h).toNat c k = c + 1) := by
  have h1 := s.2.1
  have h2 := s.2.2.1
  have h3 := cnR s
  have h4 := cnNat s
  have h5 := sdv_all (wdN h).toNat (by omega) (hgN h).toNat (by omega) c (by omega) k hk (by omega)
  refine ⟨by have := h5.1; omega, ?_, h5.2.2⟩
  rcases h5.2.1 with q | q | q | q | q
  · exact ⟨0, by decide, q⟩
  · exact ⟨1, by decide, q⟩
  · exact ⟨2, by decide, q⟩
  · exact ⟨3, by decide, q⟩
  · exact ⟨4, by decide, q⟩
section JAr
variable {h0 h : Hp}
theorem liR (s : rS h0) (j : kS h0 h) : 0 ≤ (hi h 226 18).toInt ∧ (hi h 226 18).toInt ≤ 1 := by
  rw [j 226 18 (by decide)]
  exact s.1
theorem wdR (s : rS h0) (j : kS h0 h) : (hi h 235 (Int32.toNatClampNeg (hi h 226 18))).toInt = wdN h0 ∧ 2 ≤ wdN h0 ∧ wdN h0 ≤ 5 := by
  rw [j 226 18 (by decide), j 235 _ rfl]
  exact ⟨rfl, s.2.1⟩
theorem hgR (s : rS h0) (j : kS h0 h) : (hi h 236 (Int32.toNatClampNeg (hi h 226 18))).toInt = hgN h0 ∧ 2 ≤ hgN h0 ∧ hgN h0 ≤ 5 := by
  rw [j 226 18 (by decide), j 236 _ rfl]
  exact ⟨rfl, s.2.2.1⟩
theorem gnR (s : rS h0) (j : kS h0 h) : (hi h 242 (Int32.toNatClampNeg (hi h 226 18))).toInt = gnN h0 ∧ 0 ≤ gnN h0 ∧ gnN h0 ≤ 5 := by
  rw [j 226 18 (by decide), j 242 _ rfl]
  exact ⟨rfl, s.2.2.2.1⟩
theorem toR (s : rS h0) (j : kS h0 h) : 0 ≤ (hi h 226 65).toInt ∧ (hi h 226 65).toInt ≤ 20 := by
  rw [j 226 65 (by decide)]
  exact s.2.2.2.2.2.2.2.2.1
theorem unR (s : rS h0) (j : kS h0 h) : 0 ≤ (hi h 226 59).toInt ∧ (hi h 226 59).toInt ≤ 40 := by
  rw [j 226 59 (by decide)]
  exact s.2.2.2.2.2.2.2.2.2
theorem rwO.at {c : Int} {f : Nat → Int32} (r : rwO c f) (x : Int32) : (0 ≤ x.toInt → x.toInt < 25 → 0 ≤ (f (Int32.toNatClampNeg x)).toInt ∧ (f (Int32.toNatClampNeg x)).toInt ≤ 6) ∧ (51 ≤ x.toInt → x.toInt < 56 → 0 ≤ (f (Int32.toNatClampNeg x)).toInt ∧ (f (Int32.toNatClampNeg x)).toInt < c) := by
  refine ⟨fun h1 h2 => r.1 _ ?_, fun h1 h2 => r.2 _ ?_ ?_⟩
  · have := ncT h1; omega
  · have := ncT (show 0 ≤ x.toInt by omega); omega
  · have := ncT (show 0 ≤ x.toInt by omega); omega
theorem rwR {c : Int} (r : rwO c (hi h 263)) (x : Int32) : (0 ≤ x.toInt → x.toInt < 25 → 0 ≤ (hi h 263 (Int32.toNatClampNeg x)).toInt ∧ (hi h 263 (Int32.toNatClampNeg x)).toInt ≤ 6) ∧ (51 ≤ x.toInt → x.toInt < 56 → 0 ≤ (hi h 263 (Int32.toNatClampNeg x)).toInt ∧ (hi h 263 (Int32.toNatClampNeg x)).toInt < c) := rwO.at r x
theorem nwR (s : rS h0) (j : kS h0 h) (x : Int32) : (0 ≤ x.toInt → x.toInt < 25 → 0 ≤ (hi h 262 (Int32.toNatClampNeg x)).toInt ∧ (hi h 262 (Int32.toNatClampNeg x)).toInt ≤ 6) ∧ (51 ≤ x.toInt → x.toInt < 56 → 0 ≤ (hi h 262 (Int32.toNatClampNeg x)).toInt ∧ (hi h 262 (Int32.toNatClampNeg x)).toInt < cnN h0) := by
  rw [j 262 _ rfl]
  exact rwO.at s.2.2.2.2.2.2.1 x
theorem rwR1 {c : Int} (r : rwO c (hi h 263)) (x : Int32) : 0 ≤ x.toInt → x.toInt < 25 → 0 ≤ (hi h 263 (Int32.toNatClampNeg x)).toInt ∧ (hi h 263 (Int32.toNatClampNeg x)).toInt ≤ 6 := (rwR r x).1
theorem rwR2 {c : Int} (r : rwO c (hi h 263)) (x : Int32) : 51 ≤ x.toInt → x.toInt < 56 → 0 ≤ (hi h 263 (Int32.toNatClampNeg x)).toInt ∧ (hi h 263 (Int32.toNatClampNeg x)).toInt < c := (rwR r x).2
theorem nwR1 (s : rS h0) (j : kS h0 h) (x : Int32) : 0 ≤ x.toInt → x.toInt < 25 → 0 ≤ (hi h 262 (Int32.toNatClampNeg x)).toInt ∧ (hi h 262 (Int32.toNatClampNeg x)).toInt ≤ 6 := (nwR s j x).1
theorem nwR2 (s : rS h0) (j : kS h0 h) (x : Int32) : 51 ≤ x.toInt → x.toInt < 56 → 0 ≤ (hi h 262 (Int32.toNatClampNeg x)).toInt ∧ (hi h 262 (Int32.toNatClampNeg x)).toInt < cnN h0 := (nwR s j x).2
theorem tnR (j : jA h0 h) (k : Nat) : -1 ≤ (hi h 265 k).toInt ∧ (hi h 265 k).toInt < 25 := j.2.2.2.2 k
theorem sdE (s : rS h0) (j : kS h0 h) {c k : Nat} (hc : (c : Int) < cnN h0) (hk : k < 5) : (hi h 264 (5 * c + k)).toInt = ((sdv (wdN h0).toNat (hgN h0).toNat c k : Nat) : Int) := by
  rw [j 264 _ rfl]
  exact s.2.2.2.2.1 c k hc hk
theorem sdR (s : rS h0) (j : kS h0 h) (x : Int32) : 0 ≤ x.toInt → x.toInt < 5 * cnN h0 → 0 ≤ (hi h 264 (Int32.toNatClampNeg x)).toInt ∧ (hi h 264 (Int32.toNatClampNeg x)).toInt < cnN h0 := by
  intro h1 h2
  have h3 := ncT h1
  have h4 : Int32.toNatClampNeg x = 5 * (Int32.toNatClampNeg x / 5) + Int32.toNatClampNeg x % 5 := by omega
  have h5 : ((Int32.toNatClampNeg x / 5 : Nat) : Int) < cnN h0 := by omega
  have h6 := sdE s j h5 (k := Int32.toNatClampNeg x % 5) (by omega)
  rw [← h4] at h6
  have h7 := (sdv_at s h5 (k := Int32.toNatClampNeg x % 5) (by omega)).1
  omega
theorem JAw {h1 : Hp} {a k : Nat} {v : Int32} (e : wrI h a k v = h1) (j : jA h0 h) (n : sA a k = true) (n1 : a ≠ 263) (n2 : a ≠ 265) : jA h0 h1 := by
  subst e
  have e1 : hi (wrI h a k v) 263 = hi h 263 := funext fun k' => by rw [hi_wrI, if_neg (fun z => n1 z.1.symm)]
  have e2 : hi (wrI h a k v) 265 = hi h 265 := funext fun k' => by rw [hi_wrI, if_neg (fun z => n2 z.1.symm)]
  refine ⟨fun a' k' q => ?_, fun a' k' => j.2.1 a' k', ?_, ?_, ?_⟩
  · rw [hi_wrI, if_neg (fun z => by rw [z.1, z.2, n] at q; cases q)]
    exact j.1 a' k' q
  · rw [e1]; exact j.2.2.1
  · rw [e1]; exact j.2.2.2.1
  · rw [e2]; exact j.2.2.2.2
theorem JA63 {h1 : Hp} {k : Nat} {v : Int32} (e : wrI h 263 k v = h1) (j : jA h0 h) (c1 : k < 25 → 0 ≤ v.toInt ∧ v.toInt ≤ 6) (c2 : 51 ≤ k → k < 56 → 0 ≤ v.toInt ∧ v.toInt < cnN h0) (c3 : k < 25 → 0 < v.toInt → 0 ≤ (hi h 263 (25 + k)).toInt ∧ (hi h 263 (25 + k)).toInt < v.toInt) (c4 : ∀ i, i < 25 → k = 25 + i → 0 < (hi h 263 i).toInt → 0 ≤ v.toInt ∧ v.toInt < (hi h 263 i).toInt) : jA h0 h1 := by
  subst e
  have e0 (i : Nat) : hi (wrI h 263 k v) 263 i = if i = k then v else hi h 263 i := by
    rw [hi_wrI]
    by_cases q : i = k
    · rw [if_pos q, if_pos ⟨rfl, q⟩]
    · rw [if_neg q, if_neg (fun z => q z.2)]
  refine ⟨fun a' k' q => ?_, fun a' k' => j.2.1 a' k', ⟨fun i il => ?_, fun i h1 h2 => ?_⟩, fun i il h1 => ?_, fun k' => ?_⟩
  · rw [hi_wrI, if_neg (fun z => by rw [z.1] at q; cases q)]
    exact j.1 a' k' q
  · rw [e0]
    by_cases q : i = k
    · rw [if_pos q]; exact c1 (by omega)
    · rw [if_neg q]; exact j.2.2.1.1 i il
  · rw [e0]
    by_cases q : i = k
    · rw [if_pos q]; exact c2 (by omega) (by omega)
    · rw [if_neg q]; exact j.2.2.1.2 i h1 h2
  · rw [e0] at h1 ⊢
    rw [e0]
    by_cases q : i = k
    · subst q
      rw [if_pos rfl] at h1 ⊢
      rw [if_neg (by omega)]
      exact c3 il h1
    · rw [if_neg q] at h1 ⊢
      by_cases q2 : 25 + i = k
      · rw [if_pos q2]
        exact c4 i il q2.symm h1
      · rw [if_neg q2]
        exact j.2.2.2.1 i il h1
  · rw [hi_wrI, if_neg (fun z => absurd z.1 (by decide))]
    exact j.2.2.2.2 k'
/-- a write to a row, no BEAT, no OFFSET -/
theorem JA63g {h1 : Hp} {k : Nat} {v : Int32} (e : wrI h 263 k v = h1) (j : jA h0 h) (c0 : 50 ≤ k) (c2 : 51 ≤ k → k < 56 → 0 ≤ v.toInt ∧ v.toInt < cnN h0) : jA h0 h1 :=
  JA63 e j (fun q => by omega) c2 (fun q => by omega) (fun i il q => by omega)
/-- a TUNE is taken away -/
theorem JA63z {h1 : Hp} {k : Nat} {v : Int32} (e : wrI h 263 k v = h1) (j : jA h0 h) (c0 : k < 25) (c1 : v.toInt = 0) : jA h0 h1 :=
  JA63 e j (fun q => by omega) (fun q => by omega) (fun q => by omega) (fun i il q => by omega)
theorem JA65 {h1 : Hp} {k : Nat} {v : Int32} (e : wrI h 265 k v = h1) (j : jA h0 h) (c1 : -1 ≤ v.toInt) (c2 : v.toInt < 25) : jA h0 h1 := by
  subst e
  have e1 : hi (wrI h 265 k v) 263 = hi h 263 := funext fun k' => by rw [hi_wrI, if_neg (fun z => absurd z.1 (by decide))]
  refine ⟨fun a' k' q => ?_, fun a' k' => j.2.1 a' k', ?_, ?_, fun k' => ?_⟩
  · rw [hi_wrI, if_neg (fun z => by rw [z.1] at q; cases q)]
    exact j.1 a' k' q
  · rw [e1]; exact j.2.2.1
  · rw [e1]; exact j.2.2.2.1
  · rw [hi_wrI]
    by_cases q : (265 : Nat) = 265 ∧ k' = k
    · rw [if_pos q]; exact ⟨c1, c2⟩
    · rw [if_neg q]; exact j.2.2.2.2 k'
theorem JDw {h1 : Hp} {a k : Nat} {v : Int32} (e : wrI h a k v = h1) (j : jD h0 h) (n : sD a k = true) : jD h0 h1 := by
  subst e
  refine ⟨fun a' k' q => ?_, fun a' k' => j.2 a' k'⟩
  rw [hi_wrI, if_neg (fun z => by rw [z.1, z.2, n] at q; cases q)]
  exact j.1 a' k' q
theorem kS.at (j : kS h0 h) (a : Nat) (n : ∀ k, sA a k = false) : hi h a = hi h0 a := funext fun k => j a k (n k)
theorem kS.wd (j : kS h0 h) : wdN h = wdN h0 := by
  unfold wdN
  rw [j 226 18 (by decide), j 235 _ rfl]
theorem kS.hg (j : kS h0 h) : hgN h = hgN h0 := by
  unfold hgN
  rw [j 226 18 (by decide), j 236 _ rfl]
theorem kS.gn (j : kS h0 h) : gnN h = gnN h0 := by
  unfold gnN
  rw [j 226 18 (by decide), j 242 _ rfl]
theorem kS.cn (j : kS h0 h) : cnN h = cnN h0 := by
  unfold cnN
  rw [j.wd, j.hg]
theorem kS.ob (j : kS h0 h) {L : Int} {b : Nat} (o : obO L h0 b) : obO L h b := by
  unfold obO
  rw [j.at 252 (fun _ => rfl), j.at 253 (fun _ => rfl), j.at 254 (fun _ => rfl), j.at 255 (fun _ => rfl), j.at 256 (fun _ => rfl), j.at 257 (fun _ => rfl), j.at 258 (fun _ => rfl)]
  exact o
theorem kS.st (j : kS h0 h) (s : rS h0) : rS h := by
  show (0 ≤ (hi h 226 18).toInt ∧ (hi h 226 18).toInt ≤ 1) ∧ (2 ≤ wdN h ∧ wdN h ≤ 5) ∧ (2 ≤ hgN h ∧ hgN h ≤ 5) ∧ (0 ≤ gnN h ∧ gnN h ≤ 5) ∧ sdO h ∧ lwsO h ∧ rwO (cnN h) (hi h 262) ∧ ovO (hi h 262) ∧ (0 ≤ (hi h 226 65).toInt ∧ (hi h 226 65).toInt ≤ 20) ∧ (0 ≤ (hi h 226 59).toInt ∧ (hi h 226 59).toInt ≤ 40)
  rw [j.wd, j.hg, j.gn, j.cn, j 226 18 (by decide), j.at 262 (fun _ => rfl), j 226 65 (by decide), j 226 59 (by decide)]
  refine ⟨s.1, s.2.1, s.2.2.1, s.2.2.2.1, fun c k hc hk => ?_, fun i h1 h2 => ?_, s.2.2.2.2.2.2⟩
  · rw [j.wd, j.hg, j.at 264 (fun _ => rfl)]
    rw [j.cn] at hc
    exact s.2.2.2.2.1 c k hc hk
  · rw [j 226 18 (by decide)] at h1 h2 ⊢
    have := s.2.2.2.2.2.1 i h1 h2
    unfold olO at this ⊢
    rw [j.at 250 (fun _ => rfl), j.at 251 (fun _ => rfl)]
    rcases this with q | ⟨q1, q2, q3⟩
    · exact Or.inl q
    · exact Or.inr ⟨q1, q2, fun b b1 b2 => j.ob (q3 b b1 b2)⟩
theorem jA.rw (j : jA h0 h) : rwO (cnN h0) (hi h 263) := j.2.2.1
theorem jA.deep {h1 : Hp} (j : jA h0 h) (d : jD h h1) : jA h0 h1 := by
  refine ⟨fun a k q => (d.1 a k (sDA q)).trans (j.1 a k q), fun a k => (d.2 a k).trans (j.2.1 a k), ?_, ?_, ?_⟩
  · rw [d.at 263 (fun _ => rfl)]; exact j.2.2.1
  · rw [d.at 263 (fun _ => rfl)]; exact j.2.2.2.1
  · rw [d.at 265 (fun _ => rfl)]; exact j.2.2.2.2
theorem jA.r0 (j : jA h0 h) : rwO (cnN h) (hi h 263) := by
  rw [j.1.cn]; exact j.2.2.1
end JAr
theorem rmG (x y : Int32) : 0 ≤ x.toInt → 0 < y.toInt → 0 ≤ (x - x / y * y).toInt ∧ (x - x / y * y).toInt < y.toInt := by
  intro h0 h1
  by_cases q : y.toInt = 1
  · have hy : y = 1 := Int32.toInt_inj.mp (by rw [q]; decide)
    subst hy
    rw [Int32.div_one, Int32.mul_one, Int32.sub_self]
    decide
  · rw [rmT x y y.toInt rfl (by omega) h0]
    exact ⟨Int.emod_nonneg _ (by omega), Int.emod_lt_of_pos _ h1⟩
theorem anL (x y : Int32) : 0 ≤ x.toInt → 0 ≤ (x &&& y).toInt ∧ (x &&& y).toInt ≤ x.toInt := by
  intro h
  rw [Int32.and_comm]
  exact and_rg y x x.toInt rfl h
theorem anR (x y : Int32) : 0 ≤ y.toInt → 0 ≤ (x &&& y).toInt ∧ (x &&& y).toInt ≤ y.toInt := fun h => and_rg x y y.toInt rfl h
end
section
/-! bits of sets -/
def bt (x : Int32) (i : Nat) : Bool := x.toBitVec.getLsbD i
theorem bt_ext {x y : Int32} (h : ∀ i, i < 32 → bt x i = bt y i) : x = y := Int32.toBitVec_inj.mp (BitVec.eq_of_getLsbD_eq (fun i il => h i il))
theorem bt_ge (x : Int32) {i : Nat} (h : 32 ≤ i) : bt x i = false := BitVec.getLsbD_of_ge _ _ h
theorem bt_zero (i : Nat) : bt 0 i = false := BitVec.getLsbD_zero
theorem bt_ne {x : Int32} (h : x ≠ 0) : ∃ i, i < 32 ∧ bt x i = true := by
  by_cases q : ∃ i, i < 32 ∧ bt x i = true
  · exact q
  · refine absurd (bt_ext (x := x) (y := 0) (fun i il => ?_)) h
    rw [bt_zero]
    by_cases z : bt x i = true
    · exact absurd ⟨i, il, z⟩ q
    · exact Bool.eq_false_iff.mpr z
theorem ne_bt {x : Int32} {i : Nat} (h : bt x i = true) : x ≠ 0 := fun q => by
  rw [q, bt_zero] at h
  cases h
theorem bt_and (x y : Int32) (i : Nat) : bt (x &&& y) i = (bt x i && bt y i) := by
  unfold bt
  rw [Int32.toBitVec_and, BitVec.getLsbD_and]
theorem bt_or (x y : Int32) (i : Nat) : bt (x ||| y) i = (bt x i || bt y i) := by
  unfold bt
  rw [Int32.toBitVec_or, BitVec.getLsbD_or]
theorem bt_not (x : Int32) {i : Nat} (h : i < 32) : bt (x ^^^ (-1)) i = !bt x i := by
  unfold bt
  rw [Int32.toBitVec_xor, BitVec.getLsbD_xor, show (Int32.toBitVec (-1)) = BitVec.allOnes 32 by decide, BitVec.getLsbD_allOnes, decide_eq_true h, Bool.xor_true]
theorem nc32 {c : Int32} (h0 : 0 ≤ c.toInt) : Int32.ofNat (Int32.toNatClampNeg c) = c := by
  have e := lit_0
  exact Int32.ofNat_toNatClampNeg c (Int32.le_iff_toInt_le.mpr (by omega))
theorem smodA : ∀ m, m < 32 → BitVec.smod (Int32.toBitVec (Int32.ofNat m &&& 31)) 32#32 = BitVec.ofNat 32 m := by decide +kernel
theorem smodC {c : Int32} (h0 : 0 ≤ c.toInt) (h1 : c.toInt < 32) : (BitVec.smod (Int32.toBitVec (c &&& 31)) 32#32).toNat = Int32.toNatClampNeg c := by
  have h2 := ncT h0
  have h3 := smodA (Int32.toNatClampNeg c) (by omega)
  rw [nc32 h0] at h3
  rw [h3, BitVec.toNat_ofNat, Nat.mod_eq_of_lt (by omega)]
/-- x >> c & 1 -/
theorem btS (x : Int32) {c : Int32} (h0 : 0 ≤ c.toInt) (h1 : c.toInt < 32) : ((x >>> (c &&& 31)) &&& 1).toInt = if bt x (Int32.toNatClampNeg c) = true then 1 else 0 := by
  have h2 := ncT h0
  have e1 : ((x >>> (c &&& 31)) &&& 1 : Int32).toBitVec = (x.toBitVec.sshiftRight (Int32.toNatClampNeg c)) &&& 1#32 := by
    rw [Int32.toBitVec_and, Int32.toBitVec_shiftRight]
    show BitVec.sshiftRight x.toBitVec (BitVec.smod (Int32.toBitVec (c &&& 31)) 32#32).toNat &&& _ = _
    rw [smodC h0 h1]
    rfl
  show ((x >>> (c &&& 31)) &&& 1 : Int32).toBitVec.toInt = _
  rw [e1, BitVec.and_one_eq_setWidth_ofBool_getLsbD, BitVec.getLsbD_sshiftRight]
  have e2 : (!decide (32 ≤ 0) && if Int32.toNatClampNeg c + 0 < 32 then x.toBitVec.getLsbD (Int32.toNatClampNeg c + 0) else x.toBitVec.msb) = bt x (Int32.toNatClampNeg c) := by
    rw [if_pos (by omega)]
    rfl
  rw [e2]
  cases bt x (Int32.toNatClampNeg c) <;> decide
/-- 1 << c -/
theorem btL {c : Int32} (h0 : 0 ≤ c.toInt) (h1 : c.toInt < 32) (i : Nat) : bt ((1 : Int32) <<< (c &&& 31)) i = decide (i = Int32.toNatClampNeg c) := by
  have h2 := ncT h0
  unfold bt
  rw [Int32.toBitVec_shiftLeft]
  show ((1#32 : BitVec 32) <<< (BitVec.smod (Int32.toBitVec (c &&& 31)) 32#32).toNat).getLsbD i = _
  rw [smodC h0 h1, BitVec.getLsbD_shiftLeft, BitVec.getLsbD_one]
  by_cases q : i = Int32.toNatClampNeg c
  · subst q
    have : Int32.toNatClampNeg c < 32 := by omega
    simp [this]
  · by_cases q1 : i < Int32.toNatClampNeg c
    · simp [q1, q]
    · have : ¬ (i - Int32.toNatClampNeg c = 0) := by omega
      simp [this, q]
theorem btLc {c : Int32} (h0 : 0 ≤ c.toInt) (h1 : c.toInt < 32) : bt ((1 : Int32) <<< (c &&& 31)) (Int32.toNatClampNeg c) = true := by
  rw [btL h0 h1]
  exact decide_eq_true rfl
theorem btS0 (x : Int32) {c : Int32} (h0 : 0 ≤ c.toInt) (h1 : c.toInt < 32) : ((x >>> (c &&& 31)) &&& 1).toInt = 0 ↔ bt x (Int32.toNatClampNeg c) = false := by
  rw [btS x h0 h1]
  cases bt x (Int32.toNatClampNeg c) <;> decide
theorem btS1 (x : Int32) {c : Int32} (h0 : 0 ≤ c.toInt) (h1 : c.toInt < 32) : ((x >>> (c &&& 31)) &&& 1).toInt = 1 ↔ bt x (Int32.toNatClampNeg c) = true := by
  rw [btS x h0 h1]
  cases bt x (Int32.toNatClampNeg c) <;> decide
/-- the lowest of a set that isn't empty -/
theorem sf_low (n : Nat) : ∀ (h : Hp) (l0 l1 : Int32) (i : Nat), bt l0 i = true → i < 32 → 0 ≤ l1.toInt → l1.toInt ≤ i → (∀ m : Nat, (m : Int) < l1.toInt → bt l0 m = false) → (1 : Int) + (32 - l1.toInt) < n → Ok (W_X12_lowestOf n 2 h l0 l1) (fun q => q.2 = h ∧ 0 ≤ q.1.toInt ∧ q.1.toInt < 32 ∧ bt l0 (Int32.toNatClampNeg q.1) = true ∧ (∀ m : Nat, (m : Int) < q.1.toInt → bt l0 m = false)) := by
  induction n with
  | zero => intro h l0 l1 i il h32 h0 h1 hm hn; exfalso; omega
  | succ n ih =>
    intro h l0 l1 i il h32 h0 h1 hm hn
    rw [u_X12_lowestOf]
    refine Ok.pos rfl ?_
    have z := btS0 l0 h0 (by omega)
    have e := ncT h0
    refine Ok.eq (fun c => ?_) (fun c => ?_)
    · rw [lit_0] at c
      have c2 := z.mp c
      have hne : Int32.toNatClampNeg l1 ≠ i := fun q => by rw [q, il] at c2; cases c2
      have f := adT l1 1
      have f1 := lit_1
      refine ih h l0 (l1 + 1) i il h32 (by omega) (by omega) (fun m hm2 => ?_) (by omega)
      by_cases q : (m : Int) < l1.toInt
      · exact hm m q
      · rw [show m = Int32.toNatClampNeg l1 by omega]
        exact c2
    · refine Ok.ret ⟨rfl, h0, by show l1.toInt < 32; omega, ?_, hm⟩
      show bt l0 (Int32.toNatClampNeg l1) = true
      rw [lit_0] at c
      cases q : bt l0 (Int32.toNatClampNeg l1) with
      | true => rfl
      | false => exact absurd (z.mpr q) c
theorem sf_X12_lowestOf {n : Nat} {h : Hp} {x : Int32} (hn : 40 ≤ n) (hx : x ≠ 0) : Ok (F_X12_lowestOf n h x) (fun q => q.2 = h ∧ 0 ≤ q.1.toInt ∧ q.1.toInt < 32 ∧ bt x (Int32.toNatClampNeg q.1) = true ∧ (∀ m : Nat, (m : Int) < q.1.toInt → bt x m = false)) := by
  obtain ⟨i, h1, h2⟩ := bt_ne hx
  have e := lit_0
  unfold F_X12_lowestOf
  exact sf_low n h x 0 i h2 h1 (by omega) (by omega) (fun m hm => by omega) (by omega)
end
section
/-! a law's telling, sets of cells: by hand -/
theorem sf_X12_cells {h0 : Hp} (s0 : rS h0) (r0 : rwO (cnN h0) (hi h0 263)) (n : Nat) (h : Hp) (hn : 1 ≤ n) (j : jD h0 h) : Ok (F_X12_cells n h) (fun q => q.2 = h ∧ q.1.toInt = cnN h0) := by
  unfold F_X12_cells
  have f1 := liR s0 j.ks
  have f2 := wdR s0 j.ks
  have f3 := hgR s0 j.ks
  have f4 := cnR s0
  refine Ok.chk (ixT (by omega) (by omega)) (fun c1 => ?_)
  refine Ok.pos c1 ?_
  refine Ok.ret ⟨rfl, ?_⟩
  show (hi h 235 (Int32.toNatClampNeg (hi h 226 18)) * hi h 236 (Int32.toNatClampNeg (hi h 226 18))).toInt = _
  rw [Int32.toInt_mul, f2.1, f3.1]
  have e : cnN h0 = wdN h0 * hgN h0 := rfl
  rw [← e]
  exact bmT (by omega) (by omega)
/-- y: the cells of x below c, and those beside them -/
def nbP (h0 : Hp) (x : Int32) (c : Nat) (y : Int32) : Prop := ∀ i, i < 32 → (bt y i = true ↔ ∃ c' k, c' < c ∧ k < 5 ∧ bt x c' = true ∧ sdv (wdN h0).toNat (hgN h0).toNat c' k = i)
def nbO (h0 : Hp) (x y : Int32) : Prop := nbP h0 x (cnN h0).toNat y
theorem bt_add {y s : Int32} {v i : Nat} (hv : s.toInt = (v : Int)) (h : v < 32) : bt (y ||| ((1 : Int32) <<< (s &&& 31))) i = (bt y i || decide (i = v)) := by
  rw [bt_or, btL (by omega) (by omega)]
  have := ncT (show 0 ≤ s.toInt by omega)
  rw [show Int32.toNatClampNeg s = v by omega]
theorem sf_near {h0 : Hp} (s0 : rS h0) (r0 : rwO (cnN h0) (hi h0 263)) : ∀ n : Nat, (∀ (h : Hp) (l1 l2 l3 : Int32), jD h0 h → 0 ≤ l3.toInt → l3.toInt ≤ cnN h0 → nbP h0 l1 (Int32.toNatClampNeg l3) l2 → (10 : Int) + 10 * (26 - l3.toInt) < n → Ok (W_X12_nearBits n 4 h l1 l2 l3 0) (fun q => q.2 = h ∧ nbO h0 l1 q.1)) ∧ (∀ (h : Hp) (l1 l2 l3 l4 : Int32), jD h0 h → 0 ≤ l3.toInt → l3.toInt < cnN h0 → 0 ≤ l4.toInt → l4.toInt ≤ 5 → bt l1 (Int32.toNatClampNeg l3) = true → (∀ i, i < 32 → (bt l2 i = true ↔ (∃ c' k, c' < Int32.toNatClampNeg l3 ∧ k < 5 ∧ bt l1 c' = true ∧ sdv (wdN h0).toNat (hgN h0).toNat c' k = i) ∨ ∃ k : Nat, (k : Int) < l4.toInt ∧ sdv (wdN h0).toNat (hgN h0).toNat (Int32.toNatClampNeg l3) k = i)) → (10 : Int) + 10 * (26 - l3.toInt) - 1 - l4.toInt < n → Ok (W_X12_nearBits n 26 h l1 l2 l3 l4) (fun q => q.2 = h ∧ nbO h0 l1 q.1)) := by
  have f0 := cnR s0
  intro n
  induction n with
  | zero => exact ⟨by intro h l1 l2 l3 j a b c d; exfalso; omega, by intro h l1 l2 l3 l4 j a b c d e f g; exfalso; omega⟩
  | succ n ih =>
    refine ⟨?_, ?_⟩
    · intro h l1 l2 l3 j a b c d
      have f1 := ncT a
      rw [u_X12_nearBits]
      refine Ok.pos rfl ?_
      refine Ok.bind (sf_X12_cells s0 r0 n h (by omega) j) (fun q1 hq1 => ?_)
      obtain ⟨e1, x1⟩ := hq1
      rw [e1]
      refine Ok.le (fun c1 => ?_) (fun c1 => ?_)
      · refine Ok.ret ⟨rfl, ?_⟩
        show nbP h0 l1 (cnN h0).toNat l2
        rw [show (cnN h0).toNat = Int32.toNatClampNeg l3 by omega]
        exact c
      · have z := btS0 l1 a (by omega)
        have f2 := adT l3 1
        have f3 := lit_1
        have f4 : Int32.toNatClampNeg (l3 + 1) = Int32.toNatClampNeg l3 + 1 := by
          have := ncT (show 0 ≤ (l3 + 1).toInt by omega)
          omega
        refine Ok.eq (fun c2 => ?_) (fun c2 => ?_)
        · rw [lit_0] at c2
          have c3 := z.mp c2
          refine ih.1 h l1 l2 (l3 + 1) j (by omega) (by omega) (fun i il => ?_) (by omega)
          rw [c i il, f4]
          constructor
          · rintro ⟨c', k, g1, g2⟩
            exact ⟨c', k, by omega, g2⟩
          · rintro ⟨c', k, g1, g2, g3, g4⟩
            refine ⟨c', k, ?_, g2, g3, g4⟩
            by_cases q : c' = Int32.toNatClampNeg l3
            · rw [q, c3] at g3; cases g3
            · omega
        · rw [lit_0] at c2
          have c3 : bt l1 (Int32.toNatClampNeg l3) = true := by
            cases q : bt l1 (Int32.toNatClampNeg l3) with
            | true => rfl
            | false => exact absurd (z.mpr q) c2
          have f5 := lit_0
          refine ih.2 h l1 l2 l3 0 j a (by omega) (by omega) (by omega) c3 (fun i il => ?_) (by omega)
          rw [c i il]
          constructor
          · exact Or.inl
          · rintro (g | ⟨k, g1, g2⟩)
            · exact g
            · omega
    · intro h l1 l2 l3 l4 j a b c d e f g
      have f1 := ncT a
      rw [u_X12_nearBits]
      refine Ok.neg (by decide) ?_
      refine Ok.pos rfl ?_
      have f5 := lit_5
      refine Ok.le (fun c1 => ?_) (fun c1 => ?_)
      · have f2 := adT l3 1
        have f3 := lit_1
        have f4 : Int32.toNatClampNeg (l3 + 1) = Int32.toNatClampNeg l3 + 1 := by
          have := ncT (show 0 ≤ (l3 + 1).toInt by omega)
          omega
        refine ih.1 h l1 l2 (l3 + 1) j (by omega) (by omega) (fun i il => ?_) (by omega)
        rw [f i il, f4]
        constructor
        · rintro (⟨c', k, g1, g2⟩ | ⟨k, g1, g2⟩)
          · exact ⟨c', k, by omega, g2⟩
          · exact ⟨_, k, by omega, by omega, e, g2⟩
        · rintro ⟨c', k, g1, g2, g3, g4⟩
          by_cases q : c' = Int32.toNatClampNeg l3
          · exact Or.inr ⟨k, by omega, by rw [← q]; exact g4⟩
          · exact Or.inl ⟨c', k, by omega, g2, g3, g4⟩
      · have m1 := mlT 5 l3 5 lit_5
        have m2 := adT (5 * l3) l4
        have f6 := ncT c
        have k1 : (5 * l3 + l4 : Int32).toInt = 5 * l3.toInt + l4.toInt := by omega
        have k2 : Int32.toNatClampNeg (5 * l3 + l4) = 5 * Int32.toNatClampNeg l3 + Int32.toNatClampNeg l4 := by
          have := ncT (show 0 ≤ (5 * l3 + l4 : Int32).toInt by omega)
          omega
        refine Ok.chk (ixT (by omega) (by omega)) (fun c2 => ?_)
        have k3 := sdE s0 j.ks (c := Int32.toNatClampNeg l3) (k := Int32.toNatClampNeg l4) (by omega) (by omega)
        have k4 := (sdv_at s0 (c := Int32.toNatClampNeg l3) (k := Int32.toNatClampNeg l4) (by omega) (by omega)).1
        rw [← k2] at k3
        have f2 := adT l4 1
        have f3 := lit_1
        refine ih.2 h l1 _ l3 (l4 + 1) j a b (by omega) (by omega) e (fun i il => ?_) (by omega)
        rw [bt_add k3 (by omega), Bool.or_eq_true, f i il, decide_eq_true_eq]
        constructor
        · rintro ((g1 | ⟨k, g1, g2⟩) | g1)
          · exact Or.inl g1
          · exact Or.inr ⟨k, by omega, g2⟩
          · exact Or.inr ⟨Int32.toNatClampNeg l4, by omega, g1.symm⟩
        · rintro (g1 | ⟨k, g1, g2⟩)
          · exact Or.inl (Or.inl g1)
          · by_cases q : (k : Int) < l4.toInt
            · exact Or.inl (Or.inr ⟨k, q, g2⟩)
            · refine Or.inr ?_
              rw [← g2, show k = Int32.toNatClampNeg l4 by omega]
theorem sf_X12_nearBits {h0 : Hp} (s0 : rS h0) (r0 : rwO (cnN h0) (hi h0 263)) (n : Nat) (h : Hp) (x1 : Int32) (hn : 300 ≤ n) (j : jD h0 h) : Ok (F_X12_nearBits n h x1) (fun q => q.2 = h ∧ nbO h0 x1 q.1) := by
  have f0 := cnR s0
  have f1 := lit_0
  have f2 := ncT (show 0 ≤ (0 : Int32).toInt by omega)
  unfold F_X12_nearBits
  refine (sf_near s0 r0 n).1 h x1 0 0 j (by omega) (by omega) (fun i il => ?_) (by omega)
  rw [bt_zero]
  constructor
  · intro q; cases q
  · rintro ⟨c', k, g1, g2⟩
    omega
/-! an order's way through its pile -/
theorem dpO_succ (c : Nat → Int32) (s m : Nat) : dpO c s (m + 1) = dpO c s m + (if (c (s + m)).toInt < 2 then 1 else -1) := rfl
set_option maxHeartbeats 4000000 in
theorem sf_term {h0 : Hp} {s e : Nat} (oc : ocO (hi h0 257) (hi h0 258) s e) : ∀ n : Nat, ∀ (h : Hp) (l1 l2 l3 l4 : Int32), jD h0 h → 0 ≤ l4.toInt → (s : Int) ≤ l4.toInt → l4.toInt ≤ e → l2.toInt = e → l3.toInt = dpO (hi h0 257) s (Int32.toNatClampNeg l4 - s) → (1 : Int) + (e - l4.toInt) < n → Ok (W_X12_termOf n 5 h l1 l2 l3 l4) (fun q => jD h0 q.2 ∧ True) := by
  intro n
  induction n with
  | zero => intro h l1 l2 l3 l4 j a b c d f g; exfalso; omega
  | succ n ih =>
    intro h l1 l2 l3 l4 j a b c d f g
    have e1 := ncT a
    have w (hh : Hp) (jj : jD h0 hh) (q : l4.toInt < e) (v : Int32) (hv : v.toInt = dpO (hi h0 257) s (Int32.toNatClampNeg l4 - s) + (if (hi h0 257 (Int32.toNatClampNeg l4)).toInt < 2 then 1 else -1)) : Ok (W_X12_termOf n 5 hh l1 l2 v (l4 + 1)) (fun q => jD h0 q.2 ∧ True) := by
      have oc2 := oc.2.1
      have f2 := adT l4 1
      have f3 := lit_1
      have f4 := ncT (show 0 ≤ (l4 + 1).toInt by omega)
      refine ih hh l1 l2 v (l4 + 1) jj (by omega) (by omega) (by omega) d ?_ (by omega)
      rw [show Int32.toNatClampNeg (l4 + 1) - s = (Int32.toNatClampNeg l4 - s) + 1 by omega, dpO_succ, show s + (Int32.toNatClampNeg l4 - s) = Int32.toNatClampNeg l4 by omega]
      exact hv
    rw [u_X12_termOf]
    refine Ok.pos rfl ?_
    refine Ok.le (fun c1 => ?_) (fun c1 => ?_)
    · exact Ok.ret ⟨j, trivial⟩
    have q : l4.toInt < e := by omega
    have oc2 := oc.2.1
    obtain ⟨m0, m1, m2, m3⟩ := oc.2.2 (Int32.toNatClampNeg l4 - s) (by omega)
    rw [show s + (Int32.toNatClampNeg l4 - s) = Int32.toNatClampNeg l4 by omega] at m2 m3
    have k1 : hi h 257 = hi h0 257 := j.at 257 (fun _ => rfl)
    have k2 : hi h 258 = hi h0 258 := j.at 258 (fun _ => rfl)
    rw [k1, k2]
    have e2 := lit_2
    have eo := lit_1
    refine Ok.chk (ixT (by omega) (by omega)) (fun c2 => ?_)
    refine Ok.le (fun c3 => ?_) (fun c3 => ?_)
    · have c4 : ¬ (hi h0 257 (Int32.toNatClampNeg l4)).toInt < 2 := by omega
      have c5 := m2 (by omega)
      generalize ey : (l3 + (-1) : Int32) = y
      have ad1 := adG ey rfl lit_m1 (by omega) (by omega)
      generalize ez : (y - 1 : Int32) = z
      have sb1 := sbG ez rfl lit_1 (by omega) (by omega)
      have kv : y.toInt = dpO (hi h0 257) s (Int32.toNatClampNeg l4 - s) + (if (hi h0 257 (Int32.toNatClampNeg l4)).toInt < 2 then 1 else -1) := by
        rw [if_neg c4]; omega
      refine Ok.chk (ixT (by omega) (by omega)) (fun c6 => ?_)
      refine Ok.chk (ixT (by omega) (by omega)) (fun c7 => ?_)
      have e3 := lit_3
      have e4 := lit_4
      have e5 := lit_5
      refine Ok.eq (fun c8 => ?_) (fun c8 => ?_)
      · refine Ok.ite (fun c9 => Ok.ret ⟨JDw rfl j (by decide), trivial⟩) (fun c9 => ?_)
        refine Ok.ite (fun _ => Ok.pos c6 (w _ (JDw rfl j rfl) q _ kv)) (fun _ => ?_)
        refine Ok.ite (fun _ => Ok.pos c6 (w _ (JDw rfl j rfl) q _ kv)) (fun _ => ?_)
        refine Ok.ite (fun _ => Ok.pos c6 (w _ (JDw rfl j rfl) q _ kv)) (fun _ => ?_)
        exact Ok.neg c9 (Ok.pos c6 (w _ (JDw rfl j rfl) q _ kv))
      · refine Ok.eq (fun _ => Ok.pos c6 (w _ (JDw rfl j rfl) q _ kv)) (fun _ => ?_)
        refine Ok.eq (fun _ => Ok.pos c6 (w _ (JDw rfl j rfl) q _ kv)) (fun _ => ?_)
        refine Ok.eq (fun _ => Ok.pos c6 (w _ (JDw rfl j rfl) q _ kv)) (fun _ => ?_)
        exfalso
        omega
    · have c4 : (hi h0 257 (Int32.toNatClampNeg l4)).toInt < 2 := by omega
      have ad2 := adT l3 1
      have kv : (l3 + 1 : Int32).toInt = dpO (hi h0 257) s (Int32.toNatClampNeg l4 - s) + (if (hi h0 257 (Int32.toNatClampNeg l4)).toInt < 2 then 1 else -1) := by
        rw [if_pos c4]; omega
      have e0 := lit_0
      refine Ok.eq (fun c5 => ?_) (fun c5 => ?_)
      · refine Ok.pos c2 ?_
        refine Ok.chk (ixT (by omega) (by omega)) (fun c6 => ?_)
        exact w _ (JDw rfl j rfl) q _ kv
      · have c6 := m3 (by omega) c4
        refine Ok.pos c2 ?_
        refine Ok.chk (ixT (by omega) (by omega)) (fun c7 => ?_)
        refine Ok.chk (ixT (by omega) (by omega)) (fun c8 => ?_)
        exact w _ (JDw rfl j rfl) q _ kv
theorem sf_X12_termOf {h0 : Hp} (n : Nat) (h : Hp) (x1 x2 : Int32) (hn : 1000 ≤ n) (j : jD h0 h) (o : oiO (hi h0 257) (hi h0 258) x1 x2) : Ok (F_X12_termOf n h x1 x2) (fun q => jD h0 q.2 ∧ True) := by
  obtain ⟨o1, o2, o3⟩ := o
  have e1 := ncT o1
  have e2 := ncT o2
  have e3 := o3.1
  have e4 := o3.2.1
  unfold F_X12_termOf
  refine sf_term o3 n h x1 x2 0 x1 j o1 (by omega) (by omega) (by omega) ?_ (by omega)
  rw [Nat.sub_self]
  exact lit_0
set_option maxHeartbeats 4000000 in
theorem sf_laws {h0 : Hp} {L : Int} {i : Nat} (hi8 : i < 8) (ol : ∀ b : Nat, (hi h0 250 i).toInt ≤ b → (b : Int) < (hi h0 251 i).toInt → obO L h0 b) (h260 : (hi h0 251 i).toInt ≤ 260) : ∀ n : Nat, ∀ (h : Hp) (l1 l2 l3 l4 : Int32), jD h0 h → l3.toInt = i → 0 ≤ l4.toInt → (hi h0 250 i).toInt ≤ l4.toInt → (1000 : Int) < n → (1000 : Int) + (261 - l4.toInt) < n → Ok (W_X12_lawTells n 39 h l1 l2 l3 l4) (fun q => jD h0 q.2 ∧ True) := by
  intro n
  induction n with
  | zero => intro h l1 l2 l3 l4 j a b c d e; exfalso; omega
  | succ n ih =>
    intro h l1 l2 l3 l4 j a b c d e
    have e1 := ncT b
    have e3 := ncT (show 0 ≤ l3.toInt by omega)
    have e4 : Int32.toNatClampNeg l3 = i := by omega
    have rd (hh : Hp) (jj : jD h0 hh) (x : Nat) (hx : ∀ k, sD x k = false) : hi hh x = hi h0 x := jj.at x hx
    rw [u_X12_lawTells]
    refine Ok.pos rfl ?_
    refine Ok.chk (ixT (by omega) (by omega)) (fun c1 => ?_)
    rw [e4, rd h j 251 (fun _ => rfl), rd h j 252 (fun _ => rfl), rd h j 253 (fun _ => rfl), rd h j 254 (fun _ => rfl), rd h j 255 (fun _ => rfl), rd h j 256 (fun _ => rfl)]
    refine Ok.le (fun c2 => Ok.ret ⟨j, trivial⟩) (fun c2 => ?_)
    have ob := ol (Int32.toNatClampNeg l4) (by omega) (by omega)
    refine Ok.chk (ixT (by omega) (by omega)) (fun c3 => ?_)
    have f3 := lit_0
    refine Ok.eq (fun c4 => ?_) (fun c4 => ?_)
    · refine Ok.pos c3 (Ok.pos c3 ?_)
      refine Ok.bind (sf_X12_termOf n h _ _ (by omega) j ob.2.1) (fun q7 hq7 => ?_)
      exact Ok.ite (fun _ => Ok.ret ⟨hq7.1, trivial⟩) (fun _ => Ok.ret ⟨hq7.1, trivial⟩)
    · obtain ⟨o1, o2⟩ := ob.1 (by rw [f3] at c4; exact c4)
      refine Ok.pos c3 (Ok.pos c3 ?_)
      refine Ok.bind (sf_X12_termOf n h _ _ (by omega) j o1) (fun q12 hq12 => ?_)
      refine Ok.pos c3 (Ok.pos c3 ?_)
      rw [rd q12.2 hq12.1 254 (fun _ => rfl), rd q12.2 hq12.1 255 (fun _ => rfl)]
      refine Ok.bind (sf_X12_termOf n q12.2 _ _ (by omega) hq12.1 o2) (fun q16 hq16 => ?_)
      refine Ok.ite (fun _ => ?_) (fun _ => Ok.ret ⟨hq16.1, trivial⟩)
      refine Ok.ite (fun _ => ?_) (fun _ => ?_)
      · refine Ok.pos c3 (Ok.pos c3 ?_)
        rw [rd q16.2 hq16.1 255 (fun _ => rfl), rd q16.2 hq16.1 256 (fun _ => rfl)]
        refine Ok.bind (sf_X12_termOf n q16.2 _ _ (by omega) hq16.1 ob.2.1) (fun q22 hq22 => ?_)
        exact Ok.ite (fun _ => Ok.ret ⟨hq22.1, trivial⟩) (fun _ => Ok.ret ⟨hq22.1, trivial⟩)
      · have f2 := adT l4 1
        have f4 := lit_1
        exact ih q16.2 l1 l2 l3 (l4 + 1) hq16.1 a (by omega) (by omega) (by omega) (by omega)
theorem sf_X12_lawTells {h0 : Hp} (s0 : rS h0) (r0 : rwO (cnN h0) (hi h0 263)) (n : Nat) (h : Hp) (x1 x2 : Int32) (hn : 2000 ≤ n) (j : jD h0 h) (p0 : 0 ≤ x1.toInt) (p1 : x1.toInt < 4) : Ok (F_X12_lawTells n h x1 x2) (fun q => jD h0 q.2 ∧ True) := by
  have f1 := liR s0 j.ks
  have f2 := mlT 4 (hi h 226 18) 4 lit_4
  have f3 := adT (4 * hi h 226 18) x1
  have k1 : (4 * hi h 226 18 + x1 : Int32).toInt = 4 * (hi h 226 18).toInt + x1.toInt := by omega
  have k2 := ncT (show 0 ≤ (4 * hi h 226 18 + x1 : Int32).toInt by omega)
  have k3 : hi h 226 18 = hi h0 226 18 := j.1 226 18 (by decide)
  have ol := s0.2.2.2.2.2.1 (Int32.toNatClampNeg (4 * hi h 226 18 + x1)) (by rw [← k3]; omega) (by rw [← k3]; omega)
  unfold F_X12_lawTells
  refine Ok.chk (ixT (by omega) (by omega)) (fun c1 => ?_)
  refine Ok.pos c1 ?_
  rw [j.at 250 (fun _ => rfl), j.at 251 (fun _ => rfl)]
  refine Ok.eq (fun c2 => Ok.ret ⟨j, trivial⟩) (fun c2 => ?_)
  refine Ok.pos c1 ?_
  rw [← k3] at ol
  rcases ol with q | ⟨q1, q2, q3⟩
  · exact absurd q c2
  have jw : jD h0 (wrI h 226 52 0) := JDw rfl j (by decide)
  rw [jw.at 250 (fun _ => rfl)]
  exact sf_laws (i := Int32.toNatClampNeg (4 * hi h 226 18 + x1)) (by omega) q3 (by omega) n _ x1 x2 _ _ jw (by omega) (by omega) (Int.le_refl _) (by omega) (by omega)
end
