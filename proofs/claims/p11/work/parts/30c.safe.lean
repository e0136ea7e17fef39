/-! the class comes to its end, 1 -/
set_option maxRecDepth 100000 in
set_option maxHeartbeats 4000000 in
theorem sfW_X3_lay_17 {h0 : Hp} : ∀ (n : Nat), (∀ (h : Hp) (a : Nat) (l1 : Int32) (l2 : Int32) (l3 : Int32), J h0 h → IsFd a → (1 : Int) < n → (1 : Int) + ((hi h a 1).toInt - l3.toInt) < n → Ok (W_X3_lay n 17 h a l1 l2 l3) (fun q => J h0 q ∧ True)) := by
  intro n
  induction n with
  | zero => intro h a l1 l2 l3 j hs hB hM; exfalso; omega
  | succ n ih =>
    intro h a l1 l2 l3 j hs hB hM
    rw [u_X3_lay]
    refine Ok.pos rfl ?_
    have f1 := rgT (hi h a 1)
    have f2 := rgT (l3)
    refine Ok.le (fun c3 => ?_) (fun c3 => ?_)
    · generalize eg4 : wrI h a 2 (((1 : Int32) <<< ((((hi h a 0) * (hi h a 1)) : Int32) &&& 31)) - 1) = g4
      have jg4 : J h0 g4 := JwI eg4 j (ncO_nc (fdO hs))
      exact Ok.ret ⟨jg4, trivial⟩
    · generalize eg5 : wrI h a 3 (((hi h a 3) : Int32) ||| (((1 : Int32) <<< ((((hi h a 0) * l3) : Int32) &&& 31)) : Int32)) = g5
      have jg5 : J h0 g5 := JwI eg5 j (ncO_nc (fdO hs))
      have f6 := lit_1
      first | have f7 := adT (l3) (1) (by omega) (by omega) | have f7 := adT (l3) (1)
      have f8 := rgT (l3 + 1)
      have f9 := congrArg Int32.toInt (hiK eg5 a 1 (by decide))
      exact ih g5 a l1 l2 (l3 + 1) jg5 hs  (by omega) (by omega)
set_option maxRecDepth 100000 in
set_option maxHeartbeats 4000000 in
theorem sf_X3_lay {h0 : Hp} (n : Nat) (h : Hp) (a : Nat) (x1 : Int32) (x2 : Int32) (hn : 17179869185 ≤ n) (j : J h0 h) (hs : IsFd a) : Ok (F_X3_lay n h a x1 x2) (fun q => J h0 q ∧ True) := by
  unfold F_X3_lay
  generalize eg1 : wrI h a 0 x1 = g1
  have jg1 : J h0 g1 := JwI eg1 j (ncO_nc (fdO hs))
  generalize eg2 : wrI g1 a 1 x2 = g2
  have jg2 : J h0 g2 := JwI eg2 jg1 (ncO_nc (fdO hs))
  generalize eg3 : wrI g2 a 3 0 = g3
  have jg3 : J h0 g3 := JwI eg3 jg2 (ncO_nc (fdO hs))
  have f4 := lit_0
  have f5 := congrArg Int32.toInt (hiK eg3 a 1 (by decide))
  have f6 := congrArg Int32.toInt (hiE eg2)
  have f7 := rgT (x2)
  exact sfW_X3_lay_17 (h0 := h0) n g3 a x1 x2 0 jg3 hs  (by omega) (by omega)
set_option maxRecDepth 100000 in
set_option maxHeartbeats 4000000 in
theorem sf_X4_begin {h0 : Hp} (n : Nat) (h : Hp) (a : Nat) (x1 : Int32) (hn : 1 ≤ n) (j : J h0 h) (hs : IsLw a) : Ok (F_X4_begin n h a x1) (fun q => J h0 q ∧ True) := by
  unfold F_X4_begin
  have f1 := rgT (x1)
  have f2 := lit_0
  refine Ok.lt (fun c3 => ?_) (fun c3 => ?_)
  · exact Ok.ret ⟨j, trivial⟩
  · have f4 := lit_4
    refine Ok.le (fun c5 => ?_) (fun c5 => ?_)
    · exact Ok.ret ⟨j, trivial⟩
    · refine Ok.chk (ixT (by omega) (by omega)) (fun c6 => ?_)
      generalize eg7 : wrI h (a + 2) (Int32.toNatClampNeg x1) (hi h a 3) = g7
      have jg7 : J h0 g7 := JwI eg7 j (ncO_nc (lwO hs).2.2.1)
      exact Ok.ret ⟨jg7, trivial⟩
set_option maxRecDepth 100000 in
set_option maxHeartbeats 4000000 in
theorem sf_X4_add {h0 : Hp} (n : Nat) (h : Hp) (a : Nat) (x1 : Int32) (hn : 1 ≤ n) (j : J h0 h) (hs : IsLw a) : Ok (F_X4_add n h a x1) (fun q => J h0 q ∧ True) := by
  unfold F_X4_add
  have f1 := lit_404
  have f2 := cR a 3 0 404 (lwC hs) j
  have f3 := rgT (hi h a 3)
  refine Ok.le (fun c4 => ?_) (fun c4 => ?_)
  · exact Ok.ret ⟨j, trivial⟩
  · refine Ok.chk (ixT (by omega) (by omega)) (fun c5 => ?_)
    generalize eg6 : wrI h (a + 1) (Int32.toNatClampNeg (hi h a 3)) x1 = g6
    have jg6 : J h0 g6 := JwI eg6 j (ncO_nc (lwO hs).2.1)
    generalize eg7 : wrI g6 a 3 ((hi g6 a 3) + 1) = g7
    have f8 := congrArg Int32.toInt (hiA eg6 a 3 (by omega))
    have f9 := rgT (hi g6 a 3)
    have f10 := lit_1
    first | have f11 := adT (hi g6 a 3) (1) (by omega) (by omega) | have f11 := adT (hi g6 a 3) (1)
    have f12 := rgT ((hi g6 a 3) + 1)
    have jg7 : J h0 g7 := JwC 0 404 eg7 jg6 (lwC hs) ⟨by omega, by omega⟩ (lwNz hs)
    exact Ok.ret ⟨jg7, trivial⟩
set_option maxRecDepth 100000 in
set_option maxHeartbeats 4000000 in
theorem sf_X4_clear {h0 : Hp} (n : Nat) (h : Hp) (a : Nat) (hn : 1 ≤ n) (j : J h0 h) (hs : IsLw a) : Ok (F_X4_clear n h a) (fun q => J h0 q ∧ True) := by
  unfold F_X4_clear
  generalize eg1 : wrI h a 3 0 = g1
  have f2 := lit_0
  have jg1 : J h0 g1 := JwC 0 404 eg1 j (lwC hs) ⟨by omega, by omega⟩ (lwNz hs)
  refine Ok.bind (sf_X4_begin (h0 := h0) n g1 a 0 (by omega) jg1 hs) (fun q1 hq1 => ?_)
  obtain ⟨jq1, xq1⟩ := hq1
  refine Ok.bind (sf_X4_begin (h0 := h0) n q1 a 2 (by omega) jq1 hs) (fun q3 hq3 => ?_)
  obtain ⟨jq3, xq3⟩ := hq3
  refine Ok.bind (sf_X4_add (h0 := h0) n q3 a 0 (by omega) jq3 hs) (fun q5 hq5 => ?_)
  obtain ⟨jq5, xq5⟩ := hq5
  refine Ok.bind (sf_X4_add (h0 := h0) n q5 a (-15) (by omega) jq5 hs) (fun q7 hq7 => ?_)
  obtain ⟨jq7, xq7⟩ := hq7
  refine Ok.bind (sf_X4_begin (h0 := h0) n q7 a 1 (by omega) jq7 hs) (fun q9 hq9 => ?_)
  obtain ⟨jq9, xq9⟩ := hq9
  refine Ok.bind (sf_X4_begin (h0 := h0) n q9 a 3 (by omega) jq9 hs) (fun q11 hq11 => ?_)
  obtain ⟨jq11, xq11⟩ := hq11
  refine Ok.bind (sf_X4_add (h0 := h0) n q11 a 1 (by omega) jq11 hs) (fun q13 hq13 => ?_)
  obtain ⟨jq13, xq13⟩ := hq13
  refine Ok.bind (sf_X4_add (h0 := h0) n q13 a (-15) (by omega) jq13 hs) (fun q15 hq15 => ?_)
  obtain ⟨jq15, xq15⟩ := hq15
  exact Ok.ret ⟨jq15, trivial⟩
set_option maxRecDepth 100000 in
set_option maxHeartbeats 4000000 in
theorem sf_X0_clear {h0 : Hp} (n : Nat) (h : Hp) (a : Nat) (hn : 17179869185 ≤ n) (j : J h0 h) (hs : IsBd a) : Ok (F_X0_clear n h a) (fun q => J h0 q ∧ True) := by
  unfold F_X0_clear
  refine Ok.bind (sf_X3_lay (h0 := h0) n h (a + 1) 4 4 (by omega) j hs.2.1) (fun q1 hq1 => ?_)
  obtain ⟨jq1, xq1⟩ := hq1
  refine Ok.bind (sf_X4_clear (h0 := h0) n q1 (a + 2) (by omega) jq1 hs.2.2.1) (fun q3 hq3 => ?_)
  obtain ⟨jq3, xq3⟩ := hq3
  generalize eg1 : wrI q3 a 2 0 = g1
  have f2 := lit_0
  have jg1 : J h0 g1 := JwC 0 5 eg1 jq3 (bdC hs) ⟨by omega, by omega⟩ (bdNz hs)
  generalize eg3 : wrI g1 a 3 0 = g3
  have jg3 : J h0 g3 := JwI eg3 jg1 (bdN 3 hs (by decide))
  generalize eg4 : wrI g3 a 4 0 = g4
  have jg4 : J h0 g4 := JwI eg4 jg3 (bdN 4 hs (by decide))
  exact Ok.ret ⟨jg4, trivial⟩
set_option maxRecDepth 100000 in
set_option maxHeartbeats 4000000 in
theorem sfW_J7_fill_5_5 {h0 : Hp} : ∀ (n : Nat), (∀ (h : Hp) (b1 : Nat) (l1 : Int32) (l2 : Int32) (l3 : Int32), J h0 h → ncO b1 = true → 0 ≤ l2.toInt → l3.toInt = 5 → (1 : Int) < n → (1 : Int) + (5 - l2.toInt) < n → Ok (W_J7_fill_5 n 5 h b1 l1 l2 l3) (fun q => J h0 q ∧ True)) := by
  intro n
  induction n with
  | zero => intro h b1 l1 l2 l3 j p0 i0 i1 hB hM; exfalso; omega
  | succ n ih =>
    intro h b1 l1 l2 l3 j p0 i0 i1 hB hM
    rw [u_J7_fill_5]
    refine Ok.pos rfl ?_
    have f1 := rgT (l3)
    have f2 := rgT (l2)
    refine Ok.le (fun c3 => ?_) (fun c3 => ?_)
    · exact Ok.ret ⟨j, trivial⟩
    · refine Ok.chk (ixT (by omega) (by omega)) (fun c4 => ?_)
      generalize eg5 : wrI h b1 (Int32.toNatClampNeg l2) l1 = g5
      have jg5 : J h0 g5 := JwI eg5 j (ncO_nc p0)
      have f6 := lit_1
      first | have f7 := adT (l2) (1) (by omega) (by omega) | have f7 := adT (l2) (1)
      have f8 := rgT (l2 + 1)
      exact ih g5 b1 l1 (l2 + 1) l3 jg5 p0 (by omega) (by omega) (by omega) (by omega)
set_option maxRecDepth 100000 in
set_option maxHeartbeats 4000000 in
theorem sf_J7_fill_5 {h0 : Hp} (n : Nat) (h : Hp) (b1 : Nat) (x2 : Int32) (hn : 17179869185 ≤ n) (j : J h0 h) (p0 : ncO b1 = true) : Ok (F_J7_fill_5 n h b1 x2) (fun q => J h0 q ∧ True) := by
  unfold F_J7_fill_5
  have f1 := lit_0
  have f2 := lit_5
  exact sfW_J7_fill_5_5 (h0 := h0) n h b1 x2 0 5 j p0 (by omega) (by omega) (by omega) (by omega)
set_option maxRecDepth 100000 in
set_option maxHeartbeats 4000000 in
theorem sf_X8_clear {h0 : Hp} (n : Nat) (h : Hp) (a : Nat) (hn : 17179869185 ≤ n) (j : J h0 h) (hs : Sc a) : Ok (F_X8_clear n h a) (fun q => J h0 q ∧ True) := by
  unfold F_X8_clear
  generalize eg1 : wrI h a 0 0 = g1
  have jg1 : J h0 g1 := JwI eg1 j (ncO_nc (scO hs).1)
  generalize eg2 : wrI g1 a 1 0 = g2
  have jg2 : J h0 g2 := JwI eg2 jg1 (ncO_nc (scO hs).1)
  generalize eg3 : wrI g2 a 2 0 = g3
  have jg3 : J h0 g3 := JwI eg3 jg2 (ncO_nc (scO hs).1)
  generalize eg4 : wrI g3 a 3 0 = g4
  have jg4 : J h0 g4 := JwI eg4 jg3 (ncO_nc (scO hs).1)
  have f5 := lit_0
  refine Ok.bind (sf_J7_fill_5 (h0 := h0) n g4 (a + 3) 0 (by omega) jg4 (scO hs).2.2.2) (fun q1 hq1 => ?_)
  obtain ⟨jq1, xq1⟩ := hq1
  exact Ok.ret ⟨jq1, trivial⟩
set_option maxRecDepth 100000 in
set_option maxHeartbeats 4000000 in
theorem sfW_J7_fill_25_5 {h0 : Hp} : ∀ (n : Nat), (∀ (h : Hp) (b1 : Nat) (l1 : Int32) (l2 : Int32) (l3 : Int32), J h0 h → ncO b1 = true → 0 ≤ l2.toInt → l3.toInt = 25 → (1 : Int) < n → (1 : Int) + (25 - l2.toInt) < n → Ok (W_J7_fill_25 n 5 h b1 l1 l2 l3) (fun q => J h0 q ∧ True)) := by
  intro n
  induction n with
  | zero => intro h b1 l1 l2 l3 j p0 i0 i1 hB hM; exfalso; omega
  | succ n ih =>
    intro h b1 l1 l2 l3 j p0 i0 i1 hB hM
    rw [u_J7_fill_25]
    refine Ok.pos rfl ?_
    have f1 := rgT (l3)
    have f2 := rgT (l2)
    refine Ok.le (fun c3 => ?_) (fun c3 => ?_)
    · exact Ok.ret ⟨j, trivial⟩
    · refine Ok.chk (ixT (by omega) (by omega)) (fun c4 => ?_)
      generalize eg5 : wrI h b1 (Int32.toNatClampNeg l2) l1 = g5
      have jg5 : J h0 g5 := JwI eg5 j (ncO_nc p0)
      have f6 := lit_1
      first | have f7 := adT (l2) (1) (by omega) (by omega) | have f7 := adT (l2) (1)
      have f8 := rgT (l2 + 1)
      exact ih g5 b1 l1 (l2 + 1) l3 jg5 p0 (by omega) (by omega) (by omega) (by omega)
set_option maxRecDepth 100000 in
set_option maxHeartbeats 4000000 in
theorem sf_J7_fill_25 {h0 : Hp} (n : Nat) (h : Hp) (b1 : Nat) (x2 : Int32) (hn : 17179869185 ≤ n) (j : J h0 h) (p0 : ncO b1 = true) : Ok (F_J7_fill_25 n h b1 x2) (fun q => J h0 q ∧ True) := by
  unfold F_J7_fill_25
  have f1 := lit_0
  have f2 := lit_25
  exact sfW_J7_fill_25_5 (h0 := h0) n h b1 x2 0 25 j p0 (by omega) (by omega) (by omega) (by omega)
set_option maxRecDepth 100000 in
set_option maxHeartbeats 4000000 in
theorem sf_X7_clear {h0 : Hp} (n : Nat) (h : Hp) (hn : 17179869185 ≤ n) (j : J h0 h) : Ok (F_X7_clear n h) (fun q => J h0 q ∧ True) := by
  unfold F_X7_clear
  refine Ok.bind (sf_X0_clear (h0 := h0) n h 3 (by omega) j bd_3) (fun q1 hq1 => ?_)
  obtain ⟨jq1, xq1⟩ := hq1
  refine Ok.bind (sf_X8_clear (h0 := h0) n q1 10 (by omega) jq1 sc_10) (fun q3 hq3 => ?_)
  obtain ⟨jq3, xq3⟩ := hq3
  generalize eg1 : wrI q3 2 2 (-1) = g1
  have jg1 : J h0 g1 := JwI eg1 jq3 (by decide)
  generalize eg2 : wrI g1 2 4 0 = g2
  have jg2 : J h0 g2 := JwI eg2 jg1 (by decide)
  generalize eg3 : wrI g2 2 5 0 = g3
  have jg3 : J h0 g3 := JwI eg3 jg2 (by decide)
  generalize eg4 : wrI g3 2 6 0 = g4
  have jg4 : J h0 g4 := JwI eg4 jg3 (by decide)
  generalize eg5 : wrI g4 2 7 (-1) = g5
  have jg5 : J h0 g5 := JwI eg5 jg4 (by decide)
  have f6 := lit_0
  refine Ok.bind (sf_J7_fill_25 (h0 := h0) n g5 16 0 (by omega) jg5 (by decide)) (fun q5 hq5 => ?_)
  obtain ⟨jq5, xq5⟩ := hq5
  generalize eg7 : wrI q5 2 12 0 = g7
  have jg7 : J h0 g7 := JwI eg7 jq5 (by decide)
  generalize eg8 : wrI g7 2 13 0 = g8
  have jg8 : J h0 g8 := JwI eg8 jg7 (by decide)
  generalize eg9 : wrI g8 2 14 0 = g9
  have jg9 : J h0 g9 := JwI eg9 jg8 (by decide)
  exact Ok.ret ⟨jg9, trivial⟩
set_option maxRecDepth 100000 in
set_option maxHeartbeats 4000000 in
theorem sf_X9_signAt {h0 : Hp} (n : Nat) (h : Hp) (x1 : Int32) (hn : 1 ≤ n) (j : J h0 h) : Ok (F_X9_signAt n h x1) (fun q => q.2 = h ∧ True) := by
  unfold F_X9_signAt
  have f1 := rgT (x1)
  have f2 := lit_0
  refine Ok.lt (fun c3 => ?_) (fun c3 => ?_)
  · exact Ok.ret ⟨rfl, trivial⟩
  · have f4 := cR 18 6 0 2000 (by decide) j
    have f5 := rgT (hi h 18 6)
    refine Ok.le (fun c6 => ?_) (fun c6 => ?_)
    · exact Ok.ret ⟨rfl, trivial⟩
    · have f7 := lit_2000
      refine Ok.le (fun c8 => ?_) (fun c8 => ?_)
      · exact Ok.ret ⟨rfl, trivial⟩
      · refine Ok.chk (ixT (by omega) (by omega)) (fun c9 => ?_)
        exact Ok.ret ⟨rfl, trivial⟩
set_option maxRecDepth 100000 in
set_option maxHeartbeats 4000000 in
theorem sf_X9_isBlank {h0 : Hp} (n : Nat) (h : Hp) (x1 : Int32) (hn : 1 ≤ n) (j : J h0 h) : Ok (F_X9_isBlank n h x1) (fun q => q.2 = h ∧ True) := by
  unfold F_X9_isBlank
  have f1 := rgT (x1)
  have f2 := lit_9
  refine Ok.eq (fun c3 => ?_) (fun c3 => ?_)
  · exact Ok.ret ⟨rfl, trivial⟩
  · have f4 := lit_10
    refine Ok.eq (fun c5 => ?_) (fun c5 => ?_)
    · exact Ok.ret ⟨rfl, trivial⟩
    · have f6 := lit_13
      refine Ok.eq (fun c7 => ?_) (fun c7 => ?_)
      · exact Ok.ret ⟨rfl, trivial⟩
      · have f8 := lit_32
        refine Ok.eq (fun c9 => ?_) (fun c9 => ?_)
        · exact Ok.ret ⟨rfl, trivial⟩
        · exact Ok.ret ⟨rfl, trivial⟩
set_option maxRecDepth 100000 in
set_option maxHeartbeats 4000000 in
theorem sfW_X9_behindBlanks_2 {h0 : Hp} : ∀ (n : Nat), (∀ (h : Hp) (l1 : Int32) (l2 : Int32), J h0 h → (1 : Int) < n → (1 : Int) + (2001 - l2.toInt) < n → Ok (W_X9_behindBlanks n 2 h l1 l2) (fun q => q.2 = h ∧ True)) := by
  intro n
  induction n with
  | zero => intro h l1 l2 j hB hM; exfalso; omega
  | succ n ih =>
    intro h l1 l2 j hB hM
    rw [u_X9_behindBlanks]
    refine Ok.pos rfl ?_
    have f1 := cR 18 6 0 2000 (by decide) j
    have f2 := rgT (hi h 18 6)
    have f3 := rgT (l2)
    refine Ok.le (fun c4 => ?_) (fun c4 => ?_)
    · exact Ok.ret ⟨rfl, trivial⟩
    · refine Ok.bind (sf_X9_signAt (h0 := h0) n h l2 (by omega) j ) (fun q2 hq2 => ?_)
      obtain ⟨eq2, xq2⟩ := hq2
      rw [eq2]
      refine Ok.bind (sf_X9_isBlank (h0 := h0) n h q2.1 (by omega) j ) (fun q4 hq4 => ?_)
      obtain ⟨eq4, xq4⟩ := hq4
      rw [eq4]
      have f5 := rgT (q4.1)
      have f6 := lit_0
      refine Ok.eq (fun c7 => ?_) (fun c7 => ?_)
      · exact Ok.ret ⟨rfl, trivial⟩
      · have f8 := lit_1
        first | have f9 := adT (l2) (1) (by omega) (by omega) | have f9 := adT (l2) (1)
        have f10 := rgT (l2 + 1)
        exact ih h l1 (l2 + 1) j   (by omega) (by omega)
set_option maxRecDepth 100000 in
set_option maxHeartbeats 4000000 in
theorem sf_X9_behindBlanks {h0 : Hp} (n : Nat) (h : Hp) (x1 : Int32) (hn : 17179869185 ≤ n) (j : J h0 h) : Ok (F_X9_behindBlanks n h x1) (fun q => q.2 = h ∧ True) := by
  unfold F_X9_behindBlanks
  have f1 := rgT (x1)
  exact sfW_X9_behindBlanks_2 (h0 := h0) n h x1 x1 j   (by omega) (by omega)
set_option maxRecDepth 100000 in
set_option maxHeartbeats 4000000 in
theorem sf_X9_isLetter {h0 : Hp} (n : Nat) (h : Hp) (x1 : Int32) (hn : 1 ≤ n) (j : J h0 h) : Ok (F_X9_isLetter n h x1) (fun q => q.2 = h ∧ True) := by
  unfold F_X9_isLetter
  have f1 := rgT (x1)
  have f2 := lit_97
  refine Ok.lt (fun c3 => ?_) (fun c3 => ?_)
  · exact Ok.ret ⟨rfl, trivial⟩
  · have f4 := lit_122
    refine Ok.lt (fun c5 => ?_) (fun c5 => ?_)
    · exact Ok.ret ⟨rfl, trivial⟩
    · exact Ok.ret ⟨rfl, trivial⟩
set_option maxRecDepth 100000 in
set_option maxHeartbeats 4000000 in
theorem sf_X9_isDigit {h0 : Hp} (n : Nat) (h : Hp) (x1 : Int32) (hn : 1 ≤ n) (j : J h0 h) : Ok (F_X9_isDigit n h x1) (fun q => q.2 = h ∧ True) := by
  unfold F_X9_isDigit
  have f1 := rgT (x1)
  have f2 := lit_48
  refine Ok.lt (fun c3 => ?_) (fun c3 => ?_)
  · exact Ok.ret ⟨rfl, trivial⟩
  · have f4 := lit_57
    refine Ok.lt (fun c5 => ?_) (fun c5 => ?_)
    · exact Ok.ret ⟨rfl, trivial⟩
    · exact Ok.ret ⟨rfl, trivial⟩
set_option maxRecDepth 100000 in
set_option maxHeartbeats 4000000 in
theorem sf_X9_isSign {h0 : Hp} (n : Nat) (h : Hp) (x1 : Int32) (hn : 1 ≤ n) (j : J h0 h) : Ok (F_X9_isSign n h x1) (fun q => q.2 = h ∧ True) := by
  unfold F_X9_isSign
  have f1 := rgT (x1)
  have f2 := lit_40
  refine Ok.eq (fun c3 => ?_) (fun c3 => ?_)
  · exact Ok.ret ⟨rfl, trivial⟩
  · have f4 := lit_41
    refine Ok.eq (fun c5 => ?_) (fun c5 => ?_)
    · exact Ok.ret ⟨rfl, trivial⟩
    · have f6 := lit_42
      refine Ok.eq (fun c7 => ?_) (fun c7 => ?_)
      · exact Ok.ret ⟨rfl, trivial⟩
      · have f8 := lit_43
        refine Ok.eq (fun c9 => ?_) (fun c9 => ?_)
        · exact Ok.ret ⟨rfl, trivial⟩
        · have f10 := lit_44
          refine Ok.eq (fun c11 => ?_) (fun c11 => ?_)
          · exact Ok.ret ⟨rfl, trivial⟩
          · have f12 := lit_45
            refine Ok.eq (fun c13 => ?_) (fun c13 => ?_)
            · exact Ok.ret ⟨rfl, trivial⟩
            · have f14 := lit_46
              refine Ok.eq (fun c15 => ?_) (fun c15 => ?_)
              · exact Ok.ret ⟨rfl, trivial⟩
              · have f16 := lit_47
                refine Ok.eq (fun c17 => ?_) (fun c17 => ?_)
                · exact Ok.ret ⟨rfl, trivial⟩
                · have f18 := lit_48
                  refine Ok.eq (fun c19 => ?_) (fun c19 => ?_)
                  · exact Ok.ret ⟨rfl, trivial⟩
                  · have f20 := lit_49
                    refine Ok.eq (fun c21 => ?_) (fun c21 => ?_)
                    · exact Ok.ret ⟨rfl, trivial⟩
                    · have f22 := lit_50
                      refine Ok.eq (fun c23 => ?_) (fun c23 => ?_)
                      · exact Ok.ret ⟨rfl, trivial⟩
                      · have f24 := lit_51
                        refine Ok.eq (fun c25 => ?_) (fun c25 => ?_)
                        · exact Ok.ret ⟨rfl, trivial⟩
                        · have f26 := lit_52
                          refine Ok.eq (fun c27 => ?_) (fun c27 => ?_)
                          · exact Ok.ret ⟨rfl, trivial⟩
                          · have f28 := lit_53
                            refine Ok.eq (fun c29 => ?_) (fun c29 => ?_)
                            · exact Ok.ret ⟨rfl, trivial⟩
                            · have f30 := lit_54
                              refine Ok.eq (fun c31 => ?_) (fun c31 => ?_)
                              · exact Ok.ret ⟨rfl, trivial⟩
                              · have f32 := lit_55
                                refine Ok.eq (fun c33 => ?_) (fun c33 => ?_)
                                · exact Ok.ret ⟨rfl, trivial⟩
                                · have f34 := lit_56
                                  refine Ok.eq (fun c35 => ?_) (fun c35 => ?_)
                                  · exact Ok.ret ⟨rfl, trivial⟩
                                  · have f36 := lit_57
                                    refine Ok.eq (fun c37 => ?_) (fun c37 => ?_)
                                    · exact Ok.ret ⟨rfl, trivial⟩
                                    · have f38 := lit_58
                                      refine Ok.eq (fun c39 => ?_) (fun c39 => ?_)
                                      · exact Ok.ret ⟨rfl, trivial⟩
                                      · have f40 := lit_59
                                        refine Ok.eq (fun c41 => ?_) (fun c41 => ?_)
                                        · exact Ok.ret ⟨rfl, trivial⟩
                                        · have f42 := lit_60
                                          refine Ok.eq (fun c43 => ?_) (fun c43 => ?_)
                                          · exact Ok.ret ⟨rfl, trivial⟩
                                          · have f44 := lit_61
                                            refine Ok.eq (fun c45 => ?_) (fun c45 => ?_)
                                            · exact Ok.ret ⟨rfl, trivial⟩
                                            · exact Ok.ret ⟨rfl, trivial⟩
