/-! the class comes to its end, 12 -/
set_option maxRecDepth 100000 in
set_option maxHeartbeats 4000000 in
theorem sf_X11_chorus {h0 : Hp} (n : Nat) (h : Hp) (x1 : Int32) (hn : 34359738369 ≤ n) (j : J h0 h) : Ok (F_X11_chorus n h x1) (fun q => q.2 = h ∧ True) := by
  unfold F_X11_chorus
  refine Ok.bind (sf_X11_isNoughtOrOne (h0 := h0) n h x1 (by omega) j ) (fun q8 hq8 => ?_)
  obtain ⟨eq8, xq8⟩ := hq8
  rw [eq8]
  have f1 := rgT (q8.1)
  have f2 := lit_0
  refine Ok.eq (fun c3 => ?_) (fun c3 => ?_)
  · exact Ok.ret ⟨rfl, trivial⟩
  · exact sfW_X11_chorus_16 (h0 := h0) n h x1 (-1) 0 0 j   (by omega) (by omega)
set_option maxRecDepth 100000 in
set_option maxHeartbeats 4000000 in
theorem sfW_X8_stoodOn_4 {h0 : Hp} : ∀ (n : Nat), (∀ (h : Hp) (a : Nat) (l1 : Int32) (l2 : Int32) (l3 : Int32), J h0 h → Sc a → 0 ≤ l3.toInt → (1 : Int) < n → (1 : Int) + (5 - l3.toInt) < n → Ok (W_X8_stoodOn n 4 h a l1 l2 l3) (fun q => q.2 = h ∧ True)) := by
  intro n
  induction n with
  | zero => intro h a l1 l2 l3 j hs i0 hB hM; exfalso; omega
  | succ n ih =>
    intro h a l1 l2 l3 j hs i0 hB hM
    rw [u_X8_stoodOn]
    refine Ok.pos rfl ?_
    have f1 := rgT (l1)
    have f2 := rgT (l3)
    refine Ok.le (fun c3 => ?_) (fun c3 => ?_)
    · exact Ok.ret ⟨rfl, trivial⟩
    · have f4 := lit_5
      refine Ok.le (fun c5 => ?_) (fun c5 => ?_)
      · exact Ok.ret ⟨rfl, trivial⟩
      · refine Ok.chk (ixT (by omega) (by omega)) (fun c6 => ?_)
        have f7 := lit_1
        first | have f8 := adT (l3) (1) (by omega) (by omega) | have f8 := adT (l3) (1)
        have f9 := rgT (l3 + 1)
        exact ih h a l1 ((l2 : Int32) ||| (((1 : Int32) <<< (((hi h (a + 2) (Int32.toNatClampNeg l3)) : Int32) &&& 31)) : Int32)) (l3 + 1) j hs (by omega) (by omega) (by omega)
set_option maxRecDepth 100000 in
set_option maxHeartbeats 4000000 in
theorem sf_X8_stoodOn {h0 : Hp} (n : Nat) (h : Hp) (a : Nat) (x1 : Int32) (hn : 17179869185 ≤ n) (j : J h0 h) (hs : Sc a) : Ok (F_X8_stoodOn n h a x1) (fun q => q.2 = h ∧ True) := by
  unfold F_X8_stoodOn
  have f1 := lit_0
  exact sfW_X8_stoodOn_4 (h0 := h0) n h a x1 0 0 j hs (by omega) (by omega) (by omega)
set_option maxRecDepth 100000 in
set_option maxHeartbeats 4000000 in
theorem sf_X11_count {h0 : Hp} (n : Nat) (h : Hp) (x1 : Int32) (hn : 34359738369 ≤ n) (j : J h0 h) : Ok (F_X11_count n h x1) (fun q => J h0 q.2 ∧ True) := by
  unfold F_X11_count
  have f1 := rgT (x1)
  have f2 := lit_0
  refine Ok.eq (fun c3 => ?_) (fun c3 => ?_)
  · exact Ok.ret ⟨j, trivial⟩
  · have f4 := lit_1
    refine Ok.eq (fun c5 => ?_) (fun c5 => ?_)
    · exact Ok.ret ⟨j, trivial⟩
    · have f6 := lit_2
      refine Ok.eq (fun c7 => ?_) (fun c7 => ?_)
      · exact Ok.ret ⟨j, trivial⟩
      · have f8 := lit_3
        refine Ok.eq (fun c9 => ?_) (fun c9 => ?_)
        · exact Ok.ret ⟨j, trivial⟩
        · have f10 := lit_4
          refine Ok.eq (fun c11 => ?_) (fun c11 => ?_)
          · exact Ok.ret ⟨j, trivial⟩
          · have f12 := lit_5
            refine Ok.eq (fun c13 => ?_) (fun c13 => ?_)
            · exact Ok.ret ⟨j, trivial⟩
            · have f14 := lit_6
              refine Ok.eq (fun c15 => ?_) (fun c15 => ?_)
              · exact Ok.ret ⟨j, trivial⟩
              · have f16 := lit_7
                refine Ok.eq (fun c17 => ?_) (fun c17 => ?_)
                · refine Ok.bind (sf_X8_stoodOn (h0 := h0) n h 30 (hi h 23 2) (by omega) j sc_30) (fun q9 hq9 => ?_)
                  obtain ⟨eq9, xq9⟩ := hq9
                  rw [eq9]
                  exact Ok.ret ⟨j, trivial⟩
                · have f18 := lit_8
                  refine Ok.eq (fun c19 => ?_) (fun c19 => ?_)
                  · exact Ok.ret ⟨j, trivial⟩
                  · have f20 := lit_9
                    refine Ok.eq (fun c21 => ?_) (fun c21 => ?_)
                    · exact Ok.ret ⟨j, trivial⟩
                    · have f22 := lit_10
                      refine Ok.eq (fun c23 => ?_) (fun c23 => ?_)
                      · exact Ok.ret ⟨j, trivial⟩
                      · have f24 := lit_11
                        refine Ok.eq (fun c25 => ?_) (fun c25 => ?_)
                        · refine Ok.bind (sf_J6_bitCount_0f7a4 (h0 := h0) n h (hi h 0 10) (by omega) j ) (fun q15 hq15 => ?_)
                          obtain ⟨eq15, xq15⟩ := hq15
                          rw [eq15]
                          exact Ok.ret ⟨j, trivial⟩
                        · have f26 := lit_12
                          refine Ok.eq (fun c27 => ?_) (fun c27 => ?_)
                          · refine Ok.bind (sf_X8_loudAt (h0 := h0) n h 30 (hi h 30 0) (by omega) j sc_30) (fun q18 hq18 => ?_)
                            obtain ⟨eq18, xq18⟩ := hq18
                            rw [eq18]
                            exact Ok.ret ⟨j, trivial⟩
                          · have f28 := lit_13
                            refine Ok.eq (fun c29 => ?_) (fun c29 => ?_)
                            · refine Ok.bind (sf_X11_movedInAll (h0 := h0) n h  (by omega) j ) (fun q21 hq21 => ?_)
                              obtain ⟨eq21, xq21⟩ := hq21
                              rw [eq21]
                              exact Ok.ret ⟨j, trivial⟩
                            · have f30 := lit_14
                              refine Ok.eq (fun c31 => ?_) (fun c31 => ?_)
                              · refine Ok.bind (sf_J6_bitCount_0f7a4 (h0 := h0) n h (hi h 30 3) (by omega) j ) (fun q24 hq24 => ?_)
                                obtain ⟨eq24, xq24⟩ := hq24
                                rw [eq24]
                                exact Ok.ret ⟨j, trivial⟩
                              · have f32 := lit_15
                                refine Ok.eq (fun c33 => ?_) (fun c33 => ?_)
                                · refine Ok.bind (sf_X11_costsOfTunes (h0 := h0) n h  (by omega) j ) (fun q27 hq27 => ?_)
                                  obtain ⟨jq27, xq27⟩ := hq27
                                  exact Ok.ret ⟨jq27, trivial⟩
                                · have f34 := lit_16
                                  refine Ok.eq (fun c35 => ?_) (fun c35 => ?_)
                                  · refine Ok.bind (sf_X8_stoodOn (h0 := h0) n h 30 (hi h 23 2) (by omega) j sc_30) (fun q30 hq30 => ?_)
                                    obtain ⟨eq30, xq30⟩ := hq30
                                    rw [eq30]
                                    exact Ok.ret ⟨j, trivial⟩
                                  · have f36 := lit_17
                                    refine Ok.eq (fun c37 => ?_) (fun c37 => ?_)
                                    · refine Ok.bind (sf_J6_bitCount_0f7a4 (h0 := h0) n h (hi h 30 2) (by omega) j ) (fun q33 hq33 => ?_)
                                      obtain ⟨eq33, xq33⟩ := hq33
                                      rw [eq33]
                                      exact Ok.ret ⟨j, trivial⟩
                                    · have f38 := lit_18
                                      refine Ok.eq (fun c39 => ?_) (fun c39 => ?_)
                                      · refine Ok.bind (sf_X11_everMoved (h0 := h0) n h  (by omega) j ) (fun q36 hq36 => ?_)
                                        obtain ⟨eq36, xq36⟩ := hq36
                                        rw [eq36]
                                        exact Ok.ret ⟨j, trivial⟩
                                      · have f40 := lit_19
                                        refine Ok.eq (fun c41 => ?_) (fun c41 => ?_)
                                        · exact Ok.ret ⟨j, trivial⟩
                                        · exact Ok.ret ⟨j, trivial⟩
set_option maxRecDepth 100000 in
set_option maxHeartbeats 4000000 in
theorem sf_X11_loud {h0 : Hp} (n : Nat) (h : Hp) (x1 : Int32) (hn : 17179869185 ≤ n) (j : J h0 h) : Ok (F_X11_loud n h x1) (fun q => q.2 = h ∧ True) := by
  unfold F_X11_loud
  have f1 := rgT (x1)
  refine Ok.bind (sf_X11_isSpan (h0 := h0) n h x1 (by omega) j ) (fun q1 hq1 => ?_)
  obtain ⟨eq1, xq1⟩ := hq1
  rw [eq1]
  have f2 := rgT (q1.1)
  have f3 := lit_0
  refine Ok.eq (fun c4 => ?_) (fun c4 => ?_)
  · exact Ok.ret ⟨rfl, trivial⟩
  · refine Ok.bind (sf_X8_loudAt (h0 := h0) n h 30 ((hi h 30 0) + x1) (by omega) j sc_30) (fun q4 hq4 => ?_)
    obtain ⟨eq4, xq4⟩ := hq4
    rw [eq4]
    exact Ok.ret ⟨rfl, trivial⟩
set_option maxRecDepth 100000 in
set_option maxHeartbeats 4000000 in
theorem sfW_X0_walk_46 {h0 : Hp} : ∀ (n : Nat), (∀ (h : Hp) (a : Nat) (b1 : Nat) (l2 : Int32), J h0 h → IsBd a → Sc b1 → 0 ≤ l2.toInt → (17179869185 : Int) < n → (17179869185 : Int) + (5 - l2.toInt) < n → Ok (W_X0_walk n 46 h a b1 l2) (fun q => J h0 q ∧ True)) := by
  intro n
  induction n with
  | zero => intro h a b1 l2 j hs ht1 i0 hB hM; exfalso; omega
  | succ n ih =>
    intro h a b1 l2 j hs ht1 i0 hB hM
    rw [u_X0_walk]
    refine Ok.neg (by decide) ?_
    refine Ok.pos rfl ?_
    have f1 := cR a 2 0 5 (bdC hs) j
    have f2 := rgT (hi h a 2)
    have f3 := rgT (l2)
    refine Ok.le (fun c4 => ?_) (fun c4 => ?_)
    · exact Ok.ret ⟨j, trivial⟩
    · have f5 := lit_5
      refine Ok.le (fun c6 => ?_) (fun c6 => ?_)
      · exact Ok.ret ⟨j, trivial⟩
      · refine Ok.chk (ixT (by omega) (by omega)) (fun c7 => ?_)
        refine Ok.bind (sf_X8_soundsAt (h0 := h0) n h b1 (hi h (b1 + 2) (Int32.toNatClampNeg l2)) (hi h b1 0) (by omega) j ht1) (fun q9 hq9 => ?_)
        obtain ⟨eq9, xq9⟩ := hq9
        rw [eq9]
        have f8 := rgT (q9.1)
        have f9 := lit_0
        refine Ok.eq (fun c10 => ?_) (fun c10 => ?_)
        · have f11 := lit_1
          first | have f12 := adT (l2) (1) (by omega) (by omega) | have f12 := adT (l2) (1)
          have f13 := rgT (l2 + 1)
          exact ih h a b1 (l2 + 1) j hs ht1 (by omega) (by omega) (by omega)
        · refine Ok.bind (sf_X0_whereTo (h0 := h0) n h a b1 1 l2 (by omega) j hs ht1) (fun q12 hq12 => ?_)
          obtain ⟨jq12, xq12⟩ := hq12
          refine Ok.pos c7 ?_
          refine Ok.pos c7 ?_
          refine Ok.pos c7 ?_
          generalize eg14 : wrI q12.2 (b1 + 2) (Int32.toNatClampNeg l2) q12.1 = g14
          have jg14 : J h0 g14 := JwI eg14 jq12 (ncO_nc (scO ht1).2.2.1)
          generalize eg15 : wrI g14 (b1 + 3) (Int32.toNatClampNeg l2) ((hi g14 (b1 + 3) (Int32.toNatClampNeg l2)) + 1) = g15
          have jg15 : J h0 g15 := JwI eg15 jg14 (ncO_nc (scO ht1).2.2.2)
          have f16 := lit_1
          first | have f17 := adT (l2) (1) (by omega) (by omega) | have f17 := adT (l2) (1)
          have f18 := rgT (l2 + 1)
          exact ih g15 a b1 (l2 + 1) jg15 hs ht1 (by omega) (by omega) (by omega)
set_option maxRecDepth 100000 in
set_option maxHeartbeats 4000000 in
theorem sfW_X0_walk_2 {h0 : Hp} : ∀ (n : Nat), (∀ (h : Hp) (a : Nat) (b1 : Nat) (l2 : Int32), J h0 h → IsBd a → Sc b1 → 0 ≤ l2.toInt → (34359738369 : Int) < n → (34359738369 : Int) + (5 - l2.toInt) < n → Ok (W_X0_walk n 2 h a b1 l2) (fun q => J h0 q ∧ True)) := by
  intro n
  induction n with
  | zero => intro h a b1 l2 j hs ht1 i0 hB hM; exfalso; omega
  | succ n ih =>
    intro h a b1 l2 j hs ht1 i0 hB hM
    rw [u_X0_walk]
    refine Ok.pos rfl ?_
    have f1 := cR a 2 0 5 (bdC hs) j
    have f2 := rgT (hi h a 2)
    have f3 := rgT (l2)
    refine Ok.le (fun c4 => ?_) (fun c4 => ?_)
    · generalize eg5 : wrI h b1 0 ((hi h b1 0) + 1) = g5
      have jg5 : J h0 g5 := JwI eg5 j (ncO_nc (scO ht1).1)
      have f6 := lit_0
      exact sfW_X0_walk_46 (h0 := h0) n g5 a b1 0 jg5 hs ht1 (by omega) (by omega) (by omega)
    · have f7 := lit_5
      refine Ok.le (fun c8 => ?_) (fun c8 => ?_)
      · generalize eg9 : wrI h b1 0 ((hi h b1 0) + 1) = g9
        have jg9 : J h0 g9 := JwI eg9 j (ncO_nc (scO ht1).1)
        have f10 := lit_0
        exact sfW_X0_walk_46 (h0 := h0) n g9 a b1 0 jg9 hs ht1 (by omega) (by omega) (by omega)
      · refine Ok.bind (sf_X0_whereTo (h0 := h0) n h a b1 0 l2 (by omega) j hs ht1) (fun q3 hq3 => ?_)
        obtain ⟨jq3, xq3⟩ := hq3
        refine Ok.chk (ixT (by omega) (by omega)) (fun c11 => ?_)
        generalize eg12 : wrI q3.2 (b1 + 2) (Int32.toNatClampNeg l2) q3.1 = g12
        have jg12 : J h0 g12 := JwI eg12 jq3 (ncO_nc (scO ht1).2.2.1)
        have f13 := lit_1
        first | have f14 := adT (l2) (1) (by omega) (by omega) | have f14 := adT (l2) (1)
        have f15 := rgT (l2 + 1)
        exact ih g12 a b1 (l2 + 1) jg12 hs ht1 (by omega) (by omega) (by omega)
set_option maxRecDepth 100000 in
set_option maxHeartbeats 4000000 in
theorem sf_X0_walk {h0 : Hp} (n : Nat) (h : Hp) (a : Nat) (b1 : Nat) (hn : 51539607553 ≤ n) (j : J h0 h) (hs : IsBd a) (ht1 : Sc b1) : Ok (F_X0_walk n h a b1) (fun q => J h0 q ∧ True) := by
  unfold F_X0_walk
  have f1 := lit_0
  exact sfW_X0_walk_2 (h0 := h0) n h a b1 0 j hs ht1 (by omega) (by omega) (by omega)
set_option maxRecDepth 100000 in
set_option maxHeartbeats 4000000 in
theorem sfW_X11_never_37 {h0 : Hp} : ∀ (n : Nat), (∀ (h : Hp) (l1 : Int32) (l2 : Int32) (l3 : Int32), J h0 h → l1.toInt ≤ 100 → (51539607553 : Int) < n → (51539607553 : Int) + (l1.toInt - l3.toInt + 1) < n → Ok (W_X11_never n 37 h l1 l2 l3) (fun q => J h0 q.2 ∧ True)) := by
  intro n
  induction n with
  | zero => intro h l1 l2 l3 j i0 hB hM; exfalso; omega
  | succ n ih =>
    intro h l1 l2 l3 j i0 hB hM
    rw [u_X11_never]
    refine Ok.pos rfl ?_
    have f1 := rgT (l1)
    have f2 := rgT (l3)
    refine Ok.lt (fun c3 => ?_) (fun c3 => ?_)
    · exact Ok.ret ⟨j, trivial⟩
    · refine Ok.bind (sf_X0_walk (h0 := h0) n h 23 34 (by omega) j bd_23 sc_34) (fun q2 hq2 => ?_)
      obtain ⟨jq2, xq2⟩ := hq2
      refine Ok.bind (sf_X8_stoodOn (h0 := h0) n q2 34 (hi q2 23 2) (by omega) jq2 sc_34) (fun q4 hq4 => ?_)
      obtain ⟨eq4, xq4⟩ := hq4
      rw [eq4]
      have f4 := lit_1
      first | have f5 := adT (l3) (1) (by omega) (by omega) | have f5 := adT (l3) (1)
      have f6 := rgT (l3 + 1)
      exact ih q2 l1 ((l2 : Int32) ||| (q4.1 : Int32)) (l3 + 1) jq2  (by omega) (by omega) (by omega)
set_option maxRecDepth 100000 in
set_option maxHeartbeats 4000000 in
theorem sf_X11_never {h0 : Hp} (n : Nat) (h : Hp) (x1 : Int32) (hn : 68719476737 ≤ n) (j : J h0 h) : Ok (F_X11_never n h x1) (fun q => J h0 q.2 ∧ True) := by
  unfold F_X11_never
  have f1 := rgT (x1)
  refine Ok.bind (sf_X11_isSpan (h0 := h0) n h x1 (by omega) j ) (fun q6 hq6 => ?_)
  obtain ⟨eq6, xq6⟩ := hq6
  rw [eq6]
  have f2 := rgT (q6.1)
  have f3 := lit_0
  refine Ok.eq (fun c4 => ?_) (fun c4 => ?_)
  · exact Ok.ret ⟨j, trivial⟩
  · refine Ok.bind (sf_X8_become (h0 := h0) n h 34 30 (by omega) j sc_34 sc_30) (fun q9 hq9 => ?_)
    obtain ⟨jq9, xq9⟩ := hq9
    refine Ok.bind (sf_X8_stoodOn (h0 := h0) n q9 34 (hi q9 23 2) (by omega) jq9 sc_34) (fun q11 hq11 => ?_)
    obtain ⟨eq11, xq11⟩ := hq11
    rw [eq11]
    have f5 := lit_1
    exact sfW_X11_never_37 (h0 := h0) n q9 x1 q11.1 1 jq9  (by omega) (by omega) (by omega)
set_option maxRecDepth 100000 in
set_option maxHeartbeats 4000000 in
theorem sfW_J7_fill_50_5 {h0 : Hp} : ∀ (n : Nat), (∀ (h : Hp) (b1 : Nat) (l1 : Int32) (l2 : Int32) (l3 : Int32), J h0 h → b1 = 209 → 0 ≤ l2.toInt → l3.toInt = 50 → l1.toInt < 50 → (1 : Int) < n → (1 : Int) + (50 - l2.toInt) < n → Ok (W_J7_fill_50 n 5 h b1 l1 l2 l3) (fun q => J h0 q ∧ True)) := by
  intro n
  induction n with
  | zero => intro h b1 l1 l2 l3 j p0 i0 i1 i2 hB hM; exfalso; omega
  | succ n ih =>
    intro h b1 l1 l2 l3 j p0 i0 i1 i2 hB hM
    rw [u_J7_fill_50]
    subst p0
    refine Ok.pos rfl ?_
    have f1 := rgT (l3)
    have f2 := rgT (l2)
    refine Ok.le (fun c3 => ?_) (fun c3 => ?_)
    · exact Ok.ret ⟨j, trivial⟩
    · refine Ok.chk (ixT (by omega) (by omega)) (fun c4 => ?_)
      generalize eg5 : wrI h 209 (Int32.toNatClampNeg l2) l1 = g5
      have f6 := rgT (l1)
      have jg5 : J h0 g5 := Jw209 eg5 j (by omega)
      have f7 := lit_1
      first | have f8 := adT (l2) (1) (by omega) (by omega) | have f8 := adT (l2) (1)
      have f9 := rgT (l2 + 1)
      exact ih g5 209 l1 (l2 + 1) l3 jg5 rfl (by omega) (by omega) (by omega) (by omega) (by omega)
set_option maxRecDepth 100000 in
set_option maxHeartbeats 4000000 in
theorem sf_J7_fill_50 {h0 : Hp} (n : Nat) (h : Hp) (b1 : Nat) (x2 : Int32) (hn : 17179869185 ≤ n) (j : J h0 h) (p0 : b1 = 209) (p1 : x2.toInt < 50) : Ok (F_J7_fill_50 n h b1 x2) (fun q => J h0 q ∧ True) := by
  unfold F_J7_fill_50
  subst p0
  have f1 := rgT (x2)
  have f2 := lit_0
  have f3 := lit_50
  exact sfW_J7_fill_50_5 (h0 := h0) n h 209 x2 0 50 j rfl (by omega) (by omega) (by omega) (by omega) (by omega)
