/-! the class comes to its end, 9 -/
set_option maxRecDepth 100000 in
set_option maxHeartbeats 4000000 in
theorem sf_X4_reckon {h0 : Hp} (n : Nat) (h : Hp) (x1 : Int32) (x2 : Int32) (x3 : Int32) (hn : 1 ≤ n) (j : J h0 h) : Ok (F_X4_reckon n h x1 x2 x3) (fun q => q.2 = h ∧ True) := by
  unfold F_X4_reckon
  have f1 := rgT (x1)
  refine Ok.eqV rfl lit_m13 (fun c2 => ?_) (fun c2 => ?_)
  · have f3 := rgT (x3)
    have f4 := lit_0
    refine Ok.eq (fun c5 => ?_) (fun c5 => ?_)
    · exact Ok.ret ⟨rfl, trivial⟩
    · refine Ok.div (by omega) ?_
      exact Ok.ret ⟨rfl, trivial⟩
  · refine Ok.eqV rfl lit_m12 (fun c7 => ?_) (fun c7 => ?_)
    · exact Ok.ret ⟨rfl, trivial⟩
    · refine Ok.eqV rfl lit_m11 (fun c8 => ?_) (fun c8 => ?_)
      · exact Ok.ret ⟨rfl, trivial⟩
      · refine Ok.eqV rfl lit_m10 (fun c9 => ?_) (fun c9 => ?_)
        · exact Ok.ret ⟨rfl, trivial⟩
        · exact Ok.ret ⟨rfl, trivial⟩
set_option maxRecDepth 100000 in
set_option maxHeartbeats 4000000 in
theorem sfW_X4_value_29 {h0 : Hp} : ∀ (n : Nat), (∀ (h : Hp) (a : Nat) (b2 : Nat) (l1 : Int32) (l3 : Int32) (l4 : Int32) (l5 : Int32), J h0 h → IsLw a → ArI 9 b2 → 0 ≤ l3.toInt → l3.toInt ≤ 16 → (1 : Int) < n → (1 : Int) + (404 - l5.toInt) < n → Ok (W_X4_value n 29 h a b2 l1 l3 l4 l5) (fun q => J h0 q.2 ∧ True)) := by
  intro n
  induction n with
  | zero => intro h a b2 l1 l3 l4 l5 j hs ht2 i0 i1 hB hM; exfalso; omega
  | succ n ih =>
    intro h a b2 l1 l3 l4 l5 j hs ht2 i0 i1 hB hM
    rw [u_X4_value]
    refine Ok.pos rfl ?_
    have f1 := lit_404
    have f2 := rgT (l5)
    refine Ok.le (fun c3 => ?_) (fun c3 => ?_)
    · exact Ok.ret ⟨j, trivial⟩
    · have f4 := rgT (l4)
      have f5 := lit_0
      refine Ok.lt (fun c6 => ?_) (fun c6 => ?_)
      · exact Ok.ret ⟨j, trivial⟩
      · have f7 := cR a 3 0 404 (lwC hs) j
        have f8 := rgT (hi h a 3)
        refine Ok.le (fun c9 => ?_) (fun c9 => ?_)
        · exact Ok.ret ⟨j, trivial⟩
        · refine Ok.chk (ixT (by omega) (by omega)) (fun c10 => ?_)
          have f11 := rgT (hi h (a + 1) (Int32.toNatClampNeg l4))
          refine Ok.ltV rfl lit_m9 (fun c12 => ?_) (fun c12 => ?_)
          · refine Ok.eqV rfl lit_m15 (fun c13 => ?_) (fun c13 => ?_)
            · have f14 := rgT (l3)
              have f15 := lit_1
              refine Ok.eq (fun c16 => ?_) (fun c16 => ?_)
              · exact Ok.ret ⟨j, trivial⟩
              · exact Ok.ret ⟨j, trivial⟩
            · have f17 := lit_2
              have f18 := rgT (l3)
              refine Ok.le (fun c19 => ?_) (fun c19 => ?_)
              · generalize ey20 : (l3 + (-1) : Int32) = y20
                first | have f21 := adG ey20 rfl lit_m1 (by omega) (by omega) | have f21 := adG ey20 rfl lit_m1
                have f22 := rgT (y20)
                have f23 := lit_1
                generalize ey24 : (y20 - 1 : Int32) = y24
                first | have f25 := sbG ey24 rfl rfl (by omega) (by omega) | have f25 := sbG ey24 rfl rfl
                have f26 := rgT (y24)
                refine Ok.chk (ixT (by omega) (by omega)) (fun c27 => ?_)
                refine Ok.chk (ixT (by omega) (by omega)) (fun c28 => ?_)
                refine Ok.eqV rfl lit_m14 (fun c29 => ?_) (fun c29 => ?_)
                · have f30 := rgT (hi h (a + 3) (Int32.toNatClampNeg y20))
                  have f31 := rgT (hi h (a + 3) (Int32.toNatClampNeg y24))
                  refine Ok.le (fun c32 => ?_) (fun c32 => ?_)
                  · refine Ok.bind (sf_X4_elseOf (h0 := h0) n h a (l4 + 1) (by omega) j hs) (fun q20 hq20 => ?_)
                    obtain ⟨eq20, xq20⟩ := hq20
                    rw [eq20]
                    generalize ey33 : (y20 + (-1) : Int32) = y33
                    first | have f34 := adG ey33 rfl lit_m1 (by omega) (by omega) | have f34 := adG ey33 rfl lit_m1
                    have f35 := rgT (y33)
                    first | have f36 := adT (l5) (1) (by omega) (by omega) | have f36 := adT (l5) (1)
                    have f37 := rgT (l5 + 1)
                    exact ih h a b2 l1 y33 q20.1 (l5 + 1) j hs ht2 (by omega) (by omega) (by omega) (by omega)
                  · generalize ey38 : (y20 + (-1) : Int32) = y38
                    first | have f39 := adG ey38 rfl lit_m1 (by omega) (by omega) | have f39 := adG ey38 rfl lit_m1
                    have f40 := rgT (y38)
                    first | have f41 := adT (l5) (1) (by omega) (by omega) | have f41 := adT (l5) (1)
                    have f42 := rgT (l5 + 1)
                    exact ih h a b2 l1 y38 ((l4 + 1) + 1) (l5 + 1) j hs ht2 (by omega) (by omega) (by omega) (by omega)
                · refine Ok.eqV rfl lit_m13 (fun c43 => ?_) (fun c43 => ?_)
                  · have f44 := rgT (hi h (a + 3) (Int32.toNatClampNeg y20))
                    refine Ok.eq (fun c45 => ?_) (fun c45 => ?_)
                    · exact Ok.ret ⟨j, trivial⟩
                    · refine Ok.bind (sf_X4_reckon (h0 := h0) n h (hi h (a + 1) (Int32.toNatClampNeg l4)) (hi h (a + 3) (Int32.toNatClampNeg y24)) (hi h (a + 3) (Int32.toNatClampNeg y20)) (by omega) j ) (fun q16 hq16 => ?_)
                      obtain ⟨eq16, xq16⟩ := hq16
                      rw [eq16]
                      refine Ok.chk (ixT (by omega) (by omega)) (fun c46 => ?_)
                      generalize eg47 : wrI h (a + 3) (Int32.toNatClampNeg y24) q16.1 = g47
                      have jg47 : J h0 g47 := JwI eg47 j (ncO_nc (lwO hs).2.2.2)
                      first | have f48 := adT (l5) (1) (by omega) (by omega) | have f48 := adT (l5) (1)
                      have f49 := rgT (l5 + 1)
                      exact ih g47 a b2 l1 y20 (l4 + 1) (l5 + 1) jg47 hs ht2 (by omega) (by omega) (by omega) (by omega)
                  · refine Ok.bind (sf_X4_reckon (h0 := h0) n h (hi h (a + 1) (Int32.toNatClampNeg l4)) (hi h (a + 3) (Int32.toNatClampNeg y24)) (hi h (a + 3) (Int32.toNatClampNeg y20)) (by omega) j ) (fun q12 hq12 => ?_)
                    obtain ⟨eq12, xq12⟩ := hq12
                    rw [eq12]
                    refine Ok.chk (ixT (by omega) (by omega)) (fun c50 => ?_)
                    generalize eg51 : wrI h (a + 3) (Int32.toNatClampNeg y24) q12.1 = g51
                    have jg51 : J h0 g51 := JwI eg51 j (ncO_nc (lwO hs).2.2.2)
                    first | have f52 := adT (l5) (1) (by omega) (by omega) | have f52 := adT (l5) (1)
                    have f53 := rgT (l5 + 1)
                    exact ih g51 a b2 l1 y20 (l4 + 1) (l5 + 1) jg51 hs ht2 (by omega) (by omega) (by omega) (by omega)
              · exact Ok.ret ⟨j, trivial⟩
          · have f54 := lit_16
            have f55 := rgT (l3)
            refine Ok.le (fun c56 => ?_) (fun c56 => ?_)
            · exact Ok.ret ⟨j, trivial⟩
            · generalize ey57 : ((-1) - (hi h (a + 1) (Int32.toNatClampNeg l4)) : Int32) = y57
              first | have f58 := sbG ey57 lit_m1 rfl (by omega) (by omega) | have f58 := sbG ey57 lit_m1 rfl
              have f59 := rgT (y57)
              have f60 := lit_9
              refine Ok.lt (fun c61 => ?_) (fun c61 => ?_)
              · refine Ok.lt (fun c62 => ?_) (fun c62 => ?_)
                · refine Ok.chk (ixT (by omega) (by omega)) (fun c63 => ?_)
                  refine Ok.chk (ixT (by omega) (by omega)) (fun c64 => ?_)
                  generalize eg65 : wrI h (a + 3) (Int32.toNatClampNeg l3) (hi h b2 (Int32.toNatClampNeg y57)) = g65
                  have jg65 : J h0 g65 := JwI eg65 j (ncO_nc (lwO hs).2.2.2)
                  have f66 := lit_1
                  first | have f67 := adT (l3) (1) (by omega) (by omega) | have f67 := adT (l3) (1)
                  have f68 := rgT (l3 + 1)
                  first | have f69 := adT (l5) (1) (by omega) (by omega) | have f69 := adT (l5) (1)
                  have f70 := rgT (l5 + 1)
                  exact ih g65 a b2 l1 (l3 + 1) (l4 + 1) (l5 + 1) jg65 hs ht2 (by omega) (by omega) (by omega) (by omega)
                · refine Ok.chk (ixT (by omega) (by omega)) (fun c71 => ?_)
                  generalize eg72 : wrI h (a + 3) (Int32.toNatClampNeg l3) (hi h (a + 1) (Int32.toNatClampNeg l4)) = g72
                  have jg72 : J h0 g72 := JwI eg72 j (ncO_nc (lwO hs).2.2.2)
                  have f73 := lit_1
                  first | have f74 := adT (l3) (1) (by omega) (by omega) | have f74 := adT (l3) (1)
                  have f75 := rgT (l3 + 1)
                  first | have f76 := adT (l5) (1) (by omega) (by omega) | have f76 := adT (l5) (1)
                  have f77 := rgT (l5 + 1)
                  exact ih g72 a b2 l1 (l3 + 1) (l4 + 1) (l5 + 1) jg72 hs ht2 (by omega) (by omega) (by omega) (by omega)
              · exact Ok.ret ⟨j, trivial⟩
set_option maxRecDepth 100000 in
set_option maxHeartbeats 4000000 in
theorem sf_X4_value {h0 : Hp} (n : Nat) (h : Hp) (a : Nat) (x1 : Int32) (b2 : Nat) (hn : 17179869185 ≤ n) (j : J h0 h) (hs : IsLw a) (ht2 : ArI 9 b2) : Ok (F_X4_value n h a x1 b2) (fun q => J h0 q.2 ∧ True) := by
  unfold F_X4_value
  have f1 := rgT (x1)
  have f2 := lit_0
  refine Ok.lt (fun c3 => ?_) (fun c3 => ?_)
  · exact sfW_X4_value_29 (h0 := h0) n h a b2 x1 0 (hi h a 3) 0 j hs ht2 (by omega) (by omega) (by omega) (by omega)
  · have f4 := lit_4
    refine Ok.le (fun c5 => ?_) (fun c5 => ?_)
    · exact sfW_X4_value_29 (h0 := h0) n h a b2 x1 0 (hi h a 3) 0 j hs ht2 (by omega) (by omega) (by omega) (by omega)
    · refine Ok.chk (ixT (by omega) (by omega)) (fun c6 => ?_)
      exact sfW_X4_value_29 (h0 := h0) n h a b2 x1 0 (hi h (a + 2) (Int32.toNatClampNeg x1)) 0 j hs ht2 (by omega) (by omega) (by omega) (by omega)
set_option maxRecDepth 100000 in
set_option maxHeartbeats 4000000 in
theorem sf_X0_ask {h0 : Hp} (n : Nat) (h : Hp) (a : Nat) (b1 : Nat) (x2 : Int32) (x3 : Int32) (x4 : Int32) (x5 : Int32) (hn : 17179869185 ≤ n) (j : J h0 h) (hs : IsBd a) (ht1 : Sc b1) : Ok (F_X0_ask n h a b1 x2 x3 x4 x5) (fun q => J h0 q.2 ∧ True) := by
  unfold F_X0_ask
  refine Ok.bind (sf_X3_leftOf (h0 := h0) n h (a + 1) x3 (by omega) j hs.2.1) (fun q1 hq1 => ?_)
  obtain ⟨eq1, xq1⟩ := hq1
  rw [eq1]
  generalize eg1 : wrI h (a + 6) 0 q1.1 = g1
  have jg1 : J h0 g1 := JwI eg1 j (ncO_nc (bdO hs).2)
  refine Ok.bind (sf_X3_topOf (h0 := h0) n g1 (a + 1) x3 (by omega) jg1 hs.2.1) (fun q3 hq3 => ?_)
  obtain ⟨eq3, xq3⟩ := hq3
  rw [eq3]
  generalize eg2 : wrI g1 (a + 6) 1 q3.1 = g2
  have jg2 : J h0 g2 := JwI eg2 jg1 (ncO_nc (bdO hs).2)
  generalize eg3 : wrI g2 (a + 6) 2 (hi g2 b1 0) = g3
  have jg3 : J h0 g3 := JwI eg3 jg2 (ncO_nc (bdO hs).2)
  refine Ok.bind (sf_X8_beatOf (h0 := h0) n g3 b1 x3 (by omega) jg3 ht1) (fun q5 hq5 => ?_)
  obtain ⟨eq5, xq5⟩ := hq5
  rw [eq5]
  generalize eg4 : wrI g3 (a + 6) 3 q5.1 = g4
  have jg4 : J h0 g4 := JwI eg4 jg3 (ncO_nc (bdO hs).2)
  generalize eg5 : wrI g4 (a + 6) 4 x4 = g5
  have jg5 : J h0 g5 := JwI eg5 jg4 (ncO_nc (bdO hs).2)
  generalize eg6 : wrI g5 (a + 6) 5 x5 = g6
  have jg6 : J h0 g6 := JwI eg6 jg5 (ncO_nc (bdO hs).2)
  generalize eg7 : wrI g6 (a + 6) 6 (hi g6 (a + 1) 0) = g7
  have jg7 : J h0 g7 := JwI eg7 jg6 (ncO_nc (bdO hs).2)
  generalize eg8 : wrI g7 (a + 6) 7 (hi g7 (a + 1) 1) = g8
  have jg8 : J h0 g8 := JwI eg8 jg7 (ncO_nc (bdO hs).2)
  refine Ok.bind (sf_J6_bitCount_0f7a4 (h0 := h0) n g8 (hi g8 b1 3) (by omega) jg8 ) (fun q7 hq7 => ?_)
  obtain ⟨eq7, xq7⟩ := hq7
  rw [eq7]
  generalize eg9 : wrI g8 (a + 6) 8 q7.1 = g9
  have jg9 : J h0 g9 := JwI eg9 jg8 (ncO_nc (bdO hs).2)
  refine Ok.bind (sf_X4_value (h0 := h0) n g9 (a + 2) x2 (a + 6) (by omega) jg9 hs.2.2.1 ⟨hs.2.2.2.1, hs.2.2.2.2.1⟩) (fun q9 hq9 => ?_)
  obtain ⟨jq9, xq9⟩ := hq9
  exact Ok.ret ⟨jq9, trivial⟩
set_option maxRecDepth 100000 in
set_option maxHeartbeats 4000000 in
theorem sf_X0_costOf {h0 : Hp} (n : Nat) (h : Hp) (a : Nat) (b1 : Nat) (x2 : Int32) (hn : 17179869185 ≤ n) (j : J h0 h) (hs : IsBd a) (ht1 : Sc b1) : Ok (F_X0_costOf n h a b1 x2) (fun q => J h0 q.2 ∧ True) := by
  unfold F_X0_costOf
  refine Ok.bind (sf_X0_ask (h0 := h0) n h a b1 3 x2 0 0 (by omega) j hs ht1) (fun q1 hq1 => ?_)
  obtain ⟨jq1, xq1⟩ := hq1
  exact Ok.ret ⟨jq1, trivial⟩
set_option maxRecDepth 100000 in
set_option maxHeartbeats 4000000 in
theorem sf_X11_cell {h0 : Hp} (n : Nat) (h : Hp) (x1 : Int32) (x2 : Int32) (hn : 17179869185 ≤ n) (j : J h0 h) : Ok (F_X11_cell n h x1 x2) (fun q => J h0 q.2 ∧ True) := by
  unfold F_X11_cell
  refine Ok.bind (sf_X3_has (h0 := h0) n h 24 x1 (by omega) j fd_24) (fun q1 hq1 => ?_)
  obtain ⟨eq1, xq1⟩ := hq1
  rw [eq1]
  have f1 := rgT (q1.1)
  have f2 := lit_0
  refine Ok.eq (fun c3 => ?_) (fun c3 => ?_)
  · exact Ok.ret ⟨j, trivial⟩
  · have f4 := rgT (x1)
    refine Ok.bind (sf_X8_isTuned (h0 := h0) n h 30 x1 (by omega) j sc_30) (fun q4 hq4 => ?_)
    obtain ⟨eq4, xq4⟩ := hq4
    rw [eq4]
    have f5 := rgT (x2)
    refine Ok.eq (fun c6 => ?_) (fun c6 => ?_)
    · have f7 := rgT (q4.1)
      refine Ok.eq (fun c8 => ?_) (fun c8 => ?_)
      · exact Ok.ret ⟨j, trivial⟩
      · refine Ok.bind (sf_X8_beatOf (h0 := h0) n h 30 x1 (by omega) j sc_30) (fun q8 hq8 => ?_)
        obtain ⟨eq8, xq8⟩ := hq8
        rw [eq8]
        exact Ok.ret ⟨j, trivial⟩
    · have f9 := lit_1
      refine Ok.eq (fun c10 => ?_) (fun c10 => ?_)
      · have f11 := rgT (q4.1)
        refine Ok.eq (fun c12 => ?_) (fun c12 => ?_)
        · exact Ok.ret ⟨j, trivial⟩
        · refine Ok.bind (sf_X8_offsetOf (h0 := h0) n h 30 x1 (by omega) j sc_30) (fun q12 hq12 => ?_)
          obtain ⟨eq12, xq12⟩ := hq12
          rw [eq12]
          exact Ok.ret ⟨j, trivial⟩
      · have f13 := lit_2
        refine Ok.eq (fun c14 => ?_) (fun c14 => ?_)
        · refine Ok.bind (sf_X8_soundsAt (h0 := h0) n h 30 x1 (hi h 30 0) (by omega) j sc_30) (fun q15 hq15 => ?_)
          obtain ⟨eq15, xq15⟩ := hq15
          rw [eq15]
          have f15 := rgT (q15.1)
          refine Ok.eq (fun c16 => ?_) (fun c16 => ?_)
          · exact Ok.ret ⟨j, trivial⟩
          · exact Ok.ret ⟨j, trivial⟩
        · have f17 := lit_3
          refine Ok.eq (fun c18 => ?_) (fun c18 => ?_)
          · refine Ok.bind (sf_X8_isRoped (h0 := h0) n h 30 x1 (by omega) j sc_30) (fun q19 hq19 => ?_)
            obtain ⟨eq19, xq19⟩ := hq19
            rw [eq19]
            have f19 := rgT (q19.1)
            refine Ok.eq (fun c20 => ?_) (fun c20 => ?_)
            · exact Ok.ret ⟨j, trivial⟩
            · exact Ok.ret ⟨j, trivial⟩
          · have f21 := lit_4
            refine Ok.eq (fun c22 => ?_) (fun c22 => ?_)
            · refine Ok.bind (sf_X8_goersIn (h0 := h0) n h 30 x1 (hi h 23 2) (by omega) j sc_30) (fun q23 hq23 => ?_)
              obtain ⟨eq23, xq23⟩ := hq23
              rw [eq23]
              exact Ok.ret ⟨j, trivial⟩
            · have f23 := lit_5
              refine Ok.eq (fun c24 => ?_) (fun c24 => ?_)
              · refine Ok.bind (sf_X0_costOf (h0 := h0) n h 23 30 x1 (by omega) j bd_23 sc_30) (fun q26 hq26 => ?_)
                obtain ⟨jq26, xq26⟩ := hq26
                exact Ok.ret ⟨jq26, trivial⟩
              · exact Ok.ret ⟨j, trivial⟩
set_option maxRecDepth 100000 in
set_option maxHeartbeats 4000000 in
theorem sfW_X3_farthest_7 {h0 : Hp} : ∀ (n : Nat), (∀ (h : Hp) (a : Nat) (l1 : Int32) (l2 : Int32) (l3 : Int32) (l4 : Int32), J h0 h → IsFd a → (1 : Int) < n → (1 : Int) + (25 - l4.toInt) < n → Ok (W_X3_farthest n 7 h a l1 l2 l3 l4) (fun q => q.2 = h ∧ True)) := by
  intro n
  induction n with
  | zero => intro h a l1 l2 l3 l4 j hs hB hM; exfalso; omega
  | succ n ih =>
    intro h a l1 l2 l3 l4 j hs hB hM
    rw [u_X3_farthest]
    refine Ok.pos rfl ?_
    have f1 := lit_25
    have f2 := rgT (l4)
    refine Ok.le (fun c3 => ?_) (fun c3 => ?_)
    · exact Ok.ret ⟨rfl, trivial⟩
    · have f4 := rgT ((l2 : Int32) &&& (((l3 : Int32) ^^^ ((-1) : Int32)) : Int32))
      have f5 := lit_0
      refine Ok.eq (fun c6 => ?_) (fun c6 => ?_)
      · exact Ok.ret ⟨rfl, trivial⟩
      · refine Ok.bind (sf_X3_grown (h0 := h0) n h a l3 (by omega) j hs) (fun q3 hq3 => ?_)
        obtain ⟨eq3, xq3⟩ := hq3
        rw [eq3]
        have f7 := lit_1
        first | have f8 := adT (l4) (1) (by omega) (by omega) | have f8 := adT (l4) (1)
        have f9 := rgT (l4 + 1)
        exact ih h a l1 l2 ((l3 : Int32) ||| (((q3.1 : Int32) &&& (l2 : Int32)) : Int32)) (l4 + 1) j hs  (by omega) (by omega)
