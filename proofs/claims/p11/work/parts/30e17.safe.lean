/-! the class comes to its end, 18 -/
set_option maxRecDepth 100000 in
set_option maxHeartbeats 4000000 in
theorem sf_X5_keepIfLess {h0 : Hp} (n : Nat) (h : Hp) (x1 : Int32) (hn : 1 ≤ n) (j : J h0 h) : Ok (F_X5_keepIfLess n h x1) (fun q => J h0 q ∧ True) := by
  unfold F_X5_keepIfLess
  have f1 := rgT (hi h 211 3)
  refine Ok.eqV rfl lit_m1 (fun c2 => ?_) (fun c2 => ?_)
  · generalize eg3 : wrI h 211 3 x1 = g3
    have jg3 : J h0 g3 := JwI eg3 j (by decide)
    generalize eg4 : wrA g3 213 (cpF g3 212 213 5) = g4
    have jg4 : J h0 g4 := JwA eg4 jg3 (by decide)
    exact Ok.ret ⟨jg4, trivial⟩
  · have f5 := rgT (x1)
    refine Ok.le (fun c6 => ?_) (fun c6 => ?_)
    · exact Ok.ret ⟨j, trivial⟩
    · generalize eg7 : wrI h 211 3 x1 = g7
      have jg7 : J h0 g7 := JwI eg7 j (by decide)
      generalize eg8 : wrA g7 213 (cpF g7 212 213 5) = g8
      have jg8 : J h0 g8 := JwA eg8 jg7 (by decide)
      exact Ok.ret ⟨jg8, trivial⟩
set_option maxRecDepth 100000 in
set_option maxHeartbeats 4000000 in
theorem sf_X5_distance {h0 : Hp} (n : Nat) (h : Hp) (x1 : Int32) (x2 : Int32) (hn : 1 ≤ n) (j : J h0 h) : Ok (F_X5_distance n h x1 x2) (fun q => q.2 = h ∧ True) := by
  unfold F_X5_distance
  refine Ok.bind (sf_X3_leftOf (h0 := h0) n h 24 x1 (by omega) j fd_24) (fun q1 hq1 => ?_)
  obtain ⟨eq1, xq1⟩ := hq1
  rw [eq1]
  refine Ok.bind (sf_X3_leftOf (h0 := h0) n h 24 x2 (by omega) j fd_24) (fun q3 hq3 => ?_)
  obtain ⟨eq3, xq3⟩ := hq3
  rw [eq3]
  refine Ok.bind (sf_X3_topOf (h0 := h0) n h 24 x1 (by omega) j fd_24) (fun q5 hq5 => ?_)
  obtain ⟨eq5, xq5⟩ := hq5
  rw [eq5]
  refine Ok.bind (sf_X3_topOf (h0 := h0) n h 24 x2 (by omega) j fd_24) (fun q7 hq7 => ?_)
  obtain ⟨eq7, xq7⟩ := hq7
  rw [eq7]
  exact Ok.ret ⟨rfl, trivial⟩
set_option maxRecDepth 100000 in
set_option maxHeartbeats 4000000 in
theorem sfW_X5_pairOff_44 {h0 : Hp} {e : Nat} {S : Nat → Hp → Nat → Int32 → Int32 → Int32 → Option Hp} (hS : ∀ (n : Nat) (h : Hp) (b1 : Nat) (x2 x3 x4 : Int32), 17179869184 * (19 + e) ≤ n → J h0 h → Sc b1 → 0 ≤ x4.toInt → x4.toInt ≤ 6 → 7 - x4.toInt ≤ e - 1 → Ok (S n h b1 x2 x3 x4) (fun q => J h0 q ∧ True)) : ∀ (n : Nat), (∀ (h : Hp) (b1 : Nat) (l2 : Int32) (l3 : Int32) (l4 : Int32) (l5 : Int32) (l6 : Int32) (l7 : Int32), J h0 h → Sc b1 → 0 ≤ l5.toInt → l5.toInt < 5 → 0 ≤ l7.toInt → l4.toInt ≤ 5 → 0 ≤ l4.toInt → 7 - l4.toInt ≤ e → (17179869184 * (19 + e) : Int) < n → (17179869184 * (19 + e) : Int) + (5 - l7.toInt) < n → Ok (W_X5_pairOff S n 44 h b1 l2 l3 l4 l5 l6 l7) (fun q => J h0 q ∧ True)) := by
  intro n
  induction n with
  | zero => intro h b1 l2 l3 l4 l5 l6 l7 j ht1 i0 i1 i2 i3 i4 i5 hB hM; exfalso; omega
  | succ n ih =>
    intro h b1 l2 l3 l4 l5 l6 l7 j ht1 i0 i1 i2 i3 i4 i5 hB hM
    rw [u_X5_pairOff]
    refine Ok.pos rfl ?_
    have f1 := lit_5
    have f2 := rgT (l7)
    refine Ok.le (fun c3 => ?_) (fun c3 => ?_)
    · refine Ok.bind (sf_J6_bitCount_0f7a4 (h0 := h0) n h l2 (by omega) j ) (fun q2 hq2 => ?_)
      obtain ⟨eq2, xq2⟩ := hq2
      rw [eq2]
      have f4 := and_rg (q2.1 : Int32) (1 : Int32) 1 lit_1 (by decide)
      have f5 := lit_0
      refine Ok.eq (fun c6 => ?_) (fun c6 => ?_)
      · exact Ok.ret ⟨j, trivial⟩
      · have f7 := rgT (l5)
        refine Ok.chk (ixT (by omega) (by omega)) (fun c8 => ?_)
        generalize eg9 : wrI h 212 (Int32.toNatClampNeg l5) (-2) = g9
        have jg9 : J h0 g9 := JwI eg9 j (ncO_nc (by decide))
        have f10 := rgT (l6)
        have f11 := rgT (l3)
        have f12 := rgT (l4)
        have f13 := lit_1
        first | have f14 := adT (l4) (1) (by omega) (by omega) | have f14 := adT (l4) (1)
        have f15 := rgT (l4 + 1)
        refine Ok.bind (hS n g9 b1 l6 l3 (l4 + 1) (by omega) jg9 ht1 (by omega) (by omega) (by omega)) (fun q6 hq6 => ?_)
        obtain ⟨jq6, xq6⟩ := hq6
        exact Ok.ret ⟨jq6, trivial⟩
    · have f16 := and_rg ((((l6 : Int32).toUInt32 >>> ((l7 : Int32).toUInt32 &&& Int32.toUInt32 31)).toInt32) : Int32) (1 : Int32) 1 lit_1 (by decide)
      have f17 := lit_0
      refine Ok.eq (fun c18 => ?_) (fun c18 => ?_)
      · have f19 := rgT (l4)
        have f20 := rgT (l5)
        have f21 := lit_1
        first | have f22 := adT (l7) (1) (by omega) (by omega) | have f22 := adT (l7) (1)
        have f23 := rgT (l7 + 1)
        exact ih h b1 l2 l3 l4 l5 l6 (l7 + 1) j ht1 (by omega) (by omega) (by omega) (by omega) (by omega) (by omega) (by omega) (by omega)
      · have f24 := rgT (l5)
        refine Ok.chk (ixT (by omega) (by omega)) (fun c25 => ?_)
        refine Ok.chk (ixT (by omega) (by omega)) (fun c26 => ?_)
        refine Ok.pos c25 ?_
        refine Ok.pos c26 ?_
        generalize eg27 : wrI h 212 (Int32.toNatClampNeg l5) l7 = g27
        have jg27 : J h0 g27 := JwI eg27 j (ncO_nc (by decide))
        generalize eg28 : wrI g27 212 (Int32.toNatClampNeg l7) l5 = g28
        have jg28 : J h0 g28 := JwI eg28 jg27 (ncO_nc (by decide))
        refine Ok.bind (sf_X5_distance (h0 := h0) n g28 (hi g28 (b1 + 2) (Int32.toNatClampNeg l5)) (hi g28 (b1 + 2) (Int32.toNatClampNeg l7)) (by omega) jg28 ) (fun q13 hq13 => ?_)
        obtain ⟨eq13, xq13⟩ := hq13
        rw [eq13]
        have f29 := rgT ((l6 : Int32) &&& (((((1 : Int32) <<< ((l7 : Int32) &&& 31)) : Int32) ^^^ ((-1) : Int32)) : Int32))
        have f30 := rgT (l3)
        have f31 := rgT (q13.1)
        first | have f32 := adT (l3) (q13.1) (by omega) (by omega) | have f32 := adT (l3) (q13.1)
        have f33 := rgT (l3 + q13.1)
        have f34 := rgT (l4)
        have f35 := lit_1
        first | have f36 := adT (l4) (1) (by omega) (by omega) | have f36 := adT (l4) (1)
        have f37 := rgT (l4 + 1)
        refine Ok.bind (hS n g28 b1 ((l6 : Int32) &&& (((((1 : Int32) <<< ((l7 : Int32) &&& 31)) : Int32) ^^^ ((-1) : Int32)) : Int32)) (l3 + q13.1) (l4 + 1) (by omega) jg28 ht1 (by omega) (by omega) (by omega)) (fun q15 hq15 => ?_)
        obtain ⟨jq15, xq15⟩ := hq15
        first | have f38 := adT (l7) (1) (by omega) (by omega) | have f38 := adT (l7) (1)
        have f39 := rgT (l7 + 1)
        exact ih q15 b1 l2 l3 l4 l5 l6 (l7 + 1) jq15 ht1 (by omega) (by omega) (by omega) (by omega) (by omega) (by omega) (by omega) (by omega)
set_option maxRecDepth 100000 in
set_option maxHeartbeats 4000000 in
theorem sf_X5_pairOff {h0 : Hp} {e : Nat} {S : Nat → Hp → Nat → Int32 → Int32 → Int32 → Option Hp} (hS : ∀ (n : Nat) (h : Hp) (b1 : Nat) (x2 x3 x4 : Int32), 17179869184 * (19 + e) ≤ n → J h0 h → Sc b1 → 0 ≤ x4.toInt → x4.toInt ≤ 6 → 7 - x4.toInt ≤ e - 1 → Ok (S n h b1 x2 x3 x4) (fun q => J h0 q ∧ True)) (n : Nat) (h : Hp) (b1 : Nat) (x2 : Int32) (x3 : Int32) (x4 : Int32) (hn : 17179869184 * (20 + e) ≤ n) (j : J h0 h) (ht1 : Sc b1) (p0 : 0 ≤ x4.toInt) (p1 : x4.toInt ≤ 6) (p2 : 7 - x4.toInt ≤ e) : Ok (F_X5_pairOff S n h b1 x2 x3 x4) (fun q => J h0 q ∧ True) := by
  unfold F_X5_pairOff
  refine Ok.bind (sf_X11_lowest (h0 := h0) n h x2 (by omega) j ) (fun q17 hq17 => ?_)
  obtain ⟨eq17, xq17⟩ := hq17
  rw [eq17]
  have f1 := rgT (x2)
  have f2 := lit_0
  refine Ok.eq (fun c3 => ?_) (fun c3 => ?_)
  · refine Ok.bind (sf_X5_keepIfLess (h0 := h0) n h x3 (by omega) j ) (fun q20 hq20 => ?_)
    obtain ⟨jq20, xq20⟩ := hq20
    exact Ok.ret ⟨jq20, trivial⟩
  · have f4 := lit_5
    have f5 := rgT (q17.1)
    refine Ok.le (fun c6 => ?_) (fun c6 => ?_)
    · refine Ok.bind (sf_X5_keepIfLess (h0 := h0) n h x3 (by omega) j ) (fun q23 hq23 => ?_)
      obtain ⟨jq23, xq23⟩ := hq23
      exact Ok.ret ⟨jq23, trivial⟩
    · have f7 := rgT (x4)
      refine Ok.le (fun c8 => ?_) (fun c8 => ?_)
      · have f9 := lit_1
        first | have f10 := adT (q17.1) (1) (by omega) (by omega) | have f10 := adT (q17.1) (1)
        have f11 := rgT (q17.1 + 1)
        exact sfW_X5_pairOff_44 (h0 := h0) hS n h b1 x2 x3 x4 q17.1 ((x2 : Int32) &&& (((((1 : Int32) <<< ((q17.1 : Int32) &&& 31)) : Int32) ^^^ ((-1) : Int32)) : Int32)) (q17.1 + 1) j ht1 (by omega) (by omega) (by omega) (by omega) (by omega) (by omega) (by omega) (by omega)
      · refine Ok.bind (sf_X5_keepIfLess (h0 := h0) n h x3 (by omega) j ) (fun q26 hq26 => ?_)
        obtain ⟨jq26, xq26⟩ := hq26
        exact Ok.ret ⟨jq26, trivial⟩
theorem sfL_X5_pairOff {h0 : Hp} : ∀ (l : Nat) (n : Nat) (h : Hp) (b1 : Nat) (x2 x3 x4 : Int32), 17179869184 * (20 + l) ≤ n → J h0 h → Sc b1 → 0 ≤ x4.toInt → x4.toInt ≤ 6 → 7 - x4.toInt ≤ l → Ok (L_X5_pairOff l n h b1 x2 x3 x4) (fun q => J h0 q ∧ True) := by
  intro l
  induction l with
  | zero => intro n h b1 x2 x3 x4 hn j ht p0 p1 p2; exfalso; omega
  | succ l ih =>
    intro n h b1 x2 x3 x4 hn j ht p0 p1 p2
    show Ok (F_X5_pairOff (L_X5_pairOff l) n h b1 x2 x3 x4) _
    exact sf_X5_pairOff (h0 := h0) (e := l + 1) (fun n h b1 x2 x3 x4 hn j ht q0 q1 q2 => ih n h b1 x2 x3 x4 (by omega) j ht q0 q1 (by omega)) n h b1 x2 x3 x4 (by omega) j ht p0 p1 (by omega)
theorem sf_X5_pairOffT {h0 : Hp} (n : Nat) (h : Hp) (b1 : Nat) (x2 x3 x4 : Int32) (hn : 584115552256 ≤ n) (j : J h0 h) (ht1 : Sc b1) (p0 : x4.toInt = 0) : Ok (F_X5_pairOffT n h b1 x2 x3 x4) (fun q => J h0 q ∧ True) := by
  unfold F_X5_pairOffT
  exact sfL_X5_pairOff 8 n h b1 x2 x3 x4 (by omega) j ht1 (by omega) (by omega) (by omega)
set_option maxRecDepth 100000 in
set_option maxHeartbeats 4000000 in
theorem sf_X5_match {h0 : Hp} (n : Nat) (h : Hp) (b1 : Nat) (x2 : Int32) (hn : 584115552256 ≤ n) (j : J h0 h) (ht1 : Sc b1) : Ok (F_X5_match n h b1 x2) (fun q => J h0 q ∧ True) := by
  unfold F_X5_match
  generalize eg1 : wrI h 211 3 (-1) = g1
  have jg1 : J h0 g1 := JwI eg1 j (by decide)
  have f2 := rgT ((1 : Int32) <<< ((x2 : Int32) &&& 31))
  have f3 := lit_1
  generalize ey4 : (((1 : Int32) <<< ((x2 : Int32) &&& 31)) - 1 : Int32) = y4
  first | have f5 := sbG ey4 rfl rfl (by omega) (by omega) | have f5 := sbG ey4 rfl rfl
  have f6 := rgT (y4)
  have f7 := lit_0
  refine Ok.bind (sf_X5_pairOffT (h0 := h0) n g1 b1 y4 0 0 (by omega) jg1 ht1 (by omega)) (fun q1 hq1 => ?_)
  obtain ⟨jq1, xq1⟩ := hq1
  exact Ok.ret ⟨jq1, trivial⟩
set_option maxRecDepth 100000 in
set_option maxHeartbeats 4000000 in
theorem sf_X11_pairs {h0 : Hp} (n : Nat) (h : Hp) (x1 : Int32) (hn : 584115552256 ≤ n) (j : J h0 h) : Ok (F_X11_pairs n h x1) (fun q => J h0 q.2 ∧ True) := by
  unfold F_X11_pairs
  have f1 := rgT (x1)
  refine Ok.eqV rfl lit_m1 (fun c2 => ?_) (fun c2 => ?_)
  · refine Ok.bind (sf_X5_match (h0 := h0) n h 30 (hi h 23 2) (by omega) j sc_30) (fun q2 hq2 => ?_)
    obtain ⟨jq2, xq2⟩ := hq2
    refine Ok.eqV rfl lit_m1 (fun c3 => ?_) (fun c3 => ?_)
    · exact Ok.ret ⟨jq2, trivial⟩
    · refine Ok.chk (ixT (by omega) (by omega)) (fun c4 => ?_)
      exact Ok.ret ⟨jq2, trivial⟩
  · refine Ok.bind (sf_X0_hasGoer (h0 := h0) n h 23 x1 (by omega) j bd_23) (fun q6 hq6 => ?_)
    obtain ⟨eq6, xq6⟩ := hq6
    rw [eq6]
    have f5 := rgT (q6.1)
    have f6 := lit_0
    refine Ok.eq (fun c7 => ?_) (fun c7 => ?_)
    · exact Ok.ret ⟨j, trivial⟩
    · refine Ok.bind (sf_X5_match (h0 := h0) n h 30 (hi h 23 2) (by omega) j sc_30) (fun q9 hq9 => ?_)
      obtain ⟨jq9, xq9⟩ := hq9
      refine Ok.eqV rfl lit_m1 (fun c8 => ?_) (fun c8 => ?_)
      · exact Ok.ret ⟨jq9, trivial⟩
      · refine Ok.chk (ixT (by omega) (by omega)) (fun c9 => ?_)
        exact Ok.ret ⟨jq9, trivial⟩
set_option maxRecDepth 100000 in
set_option maxHeartbeats 4000000 in
theorem sf_X3_become {h0 : Hp} (n : Nat) (h : Hp) (a : Nat) (b1 : Nat) (hn : 1 ≤ n) (j : J h0 h) (hs : IsFd a) (ht1 : IsFd b1) : Ok (F_X3_become n h a b1) (fun q => J h0 q ∧ True) := by
  unfold F_X3_become
  generalize eg1 : wrI h a 0 (hi h b1 0) = g1
  have jg1 : J h0 g1 := JwI eg1 j (ncO_nc (fdO hs))
  generalize eg2 : wrI g1 a 1 (hi g1 b1 1) = g2
  have jg2 : J h0 g2 := JwI eg2 jg1 (ncO_nc (fdO hs))
  generalize eg3 : wrI g2 a 2 (hi g2 b1 2) = g3
  have jg3 : J h0 g3 := JwI eg3 jg2 (ncO_nc (fdO hs))
  generalize eg4 : wrI g3 a 3 (hi g3 b1 3) = g4
  have jg4 : J h0 g4 := JwI eg4 jg3 (ncO_nc (fdO hs))
  exact Ok.ret ⟨jg4, trivial⟩
set_option maxRecDepth 100000 in
set_option maxHeartbeats 4000000 in
theorem sf_X4_become {h0 : Hp} (n : Nat) (h : Hp) (a : Nat) (b1 : Nat) (hn : 1 ≤ n) (j : J h0 h) (hs : IsLw a) (ht1 : IsLw b1) : Ok (F_X4_become n h a b1) (fun q => J h0 q ∧ True) := by
  unfold F_X4_become
  generalize eg1 : wrI h a 3 (hi h b1 3) = g1
  have f2 := cR b1 3 0 404 (lwC ht1) j
  have f3 := rgT (hi h b1 3)
  have jg1 : J h0 g1 := JwC 0 404 eg1 j (lwC hs) ⟨by omega, by omega⟩ (lwNz hs)
  generalize eg4 : wrA g1 (a + 1) (cpF g1 (b1 + 1) (a + 1) 404) = g4
  have jg4 : J h0 g4 := JwA eg4 jg1 (lwO hs).2.1
  generalize eg5 : wrA g4 (a + 2) (cpF g4 (b1 + 2) (a + 2) 4) = g5
  have jg5 : J h0 g5 := JwA eg5 jg4 (lwO hs).2.2.1
  exact Ok.ret ⟨jg5, trivial⟩
set_option maxRecDepth 100000 in
set_option maxHeartbeats 4000000 in
theorem sf_X0_become {h0 : Hp} (n : Nat) (h : Hp) (a : Nat) (b1 : Nat) (hn : 1 ≤ n) (j : J h0 h) (hs : IsBd a) (ht1 : IsBd b1) : Ok (F_X0_become n h a b1) (fun q => J h0 q ∧ True) := by
  unfold F_X0_become
  refine Ok.bind (sf_X3_become (h0 := h0) n h (a + 1) (b1 + 1) (by omega) j hs.2.1 ht1.2.1) (fun q1 hq1 => ?_)
  obtain ⟨jq1, xq1⟩ := hq1
  refine Ok.bind (sf_X4_become (h0 := h0) n q1 (a + 2) (b1 + 2) (by omega) jq1 hs.2.2.1 ht1.2.2.1) (fun q3 hq3 => ?_)
  obtain ⟨jq3, xq3⟩ := hq3
  generalize eg1 : wrI q3 a 2 (hi q3 b1 2) = g1
  have f2 := cR b1 2 0 5 (bdC ht1) jq3
  have f3 := rgT (hi q3 b1 2)
  have jg1 : J h0 g1 := JwC 0 5 eg1 jq3 (bdC hs) ⟨by omega, by omega⟩ (bdNz hs)
  generalize eg4 : wrI g1 a 3 (hi g1 b1 3) = g4
  have jg4 : J h0 g4 := JwI eg4 jg1 (bdN 3 hs (by decide))
  generalize eg5 : wrI g4 a 4 (hi g4 b1 4) = g5
  have jg5 : J h0 g5 := JwI eg5 jg4 (bdN 4 hs (by decide))
  exact Ok.ret ⟨jg5, trivial⟩
