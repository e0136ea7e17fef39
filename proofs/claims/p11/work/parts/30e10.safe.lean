/-! the class comes to its end, 11 -/
set_option maxRecDepth 100000 in
set_option maxHeartbeats 4000000 in
theorem sfW_X2_bestTime_12 {h0 : Hp} : ∀ (n : Nat), (∀ (h : Hp) (l0 : Int32) (l1 : Int32) (l2 : Int32) (l3 : Int32), J h0 h → (17179869185 : Int) < n → (17179869185 : Int) + (60 - l3.toInt) < n → Ok (W_X2_bestTime n 12 h l0 l1 l2 l3) (fun q => q.2 = h ∧ True)) := by
  intro n
  induction n with
  | zero => intro h l0 l1 l2 l3 j hB hM; exfalso; omega
  | succ n ih =>
    intro h l0 l1 l2 l3 j hB hM
    rw [u_X2_bestTime]
    refine Ok.pos rfl ?_
    have f1 := lit_60
    have f2 := rgT (l3)
    refine Ok.le (fun c3 => ?_) (fun c3 => ?_)
    · exact Ok.ret ⟨rfl, trivial⟩
    · have f4 := rgT (l0)
      have f5 := lit_0
      refine Ok.eq (fun c6 => ?_) (fun c6 => ?_)
      · exact Ok.ret ⟨rfl, trivial⟩
      · refine Ok.bind (sf_X2_soundingAt (h0 := h0) n h l3 (by omega) j ) (fun q3 hq3 => ?_)
        obtain ⟨eq3, xq3⟩ := hq3
        rw [eq3]
        refine Ok.bind (sf_J6_bitCount_0f7a4 (h0 := h0) n h ((l0 : Int32) &&& (q3.1 : Int32)) (by omega) j ) (fun q5 hq5 => ?_)
        obtain ⟨eq5, xq5⟩ := hq5
        rw [eq5]
        refine Ok.bind (sf_J6_bitCount_0f7a4 (h0 := h0) n h ((l0 : Int32) &&& (((q3.1 : Int32) ^^^ ((-1) : Int32)) : Int32)) (by omega) j ) (fun q7 hq7 => ?_)
        obtain ⟨eq7, xq7⟩ := hq7
        rw [eq7]
        have f7 := rgT (l2)
        have f8 := rgT (if q5.1 < q7.1 then q7.1 else q5.1)
        refine Ok.le (fun c9 => ?_) (fun c9 => ?_)
        · have f10 := lit_1
          first | have f11 := adT (l3) (1) (by omega) (by omega) | have f11 := adT (l3) (1)
          have f12 := rgT (l3 + 1)
          exact ih h l0 l1 l2 (l3 + 1) j   (by omega) (by omega)
        · have f13 := lit_1
          first | have f14 := adT (l3) (1) (by omega) (by omega) | have f14 := adT (l3) (1)
          have f15 := rgT (l3 + 1)
          exact ih h l0 l3 (if q5.1 < q7.1 then q7.1 else q5.1) (l3 + 1) j   (by omega) (by omega)
set_option maxRecDepth 100000 in
set_option maxHeartbeats 4000000 in
theorem sf_X2_bestTime {h0 : Hp} (n : Nat) (h : Hp) (x1 : Int32) (hn : 34359738369 ≤ n) (j : J h0 h) : Ok (F_X2_bestTime n h x1) (fun q => q.2 = h ∧ True) := by
  unfold F_X2_bestTime
  refine Ok.bind (sf_J6_bitCount_0f7a4 (h0 := h0) n h x1 (by omega) j ) (fun q10 hq10 => ?_)
  obtain ⟨eq10, xq10⟩ := hq10
  rw [eq10]
  have f1 := lit_0
  exact sfW_X2_bestTime_12 (h0 := h0) n h x1 (-2) (q10.1 + 1) 0 j   (by omega) (by omega)
set_option maxRecDepth 100000 in
set_option maxHeartbeats 4000000 in
theorem sf_X11_listen {h0 : Hp} (n : Nat) (h : Hp) (x1 : Int32) (hn : 34359738369 ≤ n) (j : J h0 h) : Ok (F_X11_listen n h x1) (fun q => q.2 = h ∧ True) := by
  unfold F_X11_listen
  refine Ok.bind (sf_X2_knows (h0 := h0) n h x1 (by omega) j ) (fun q1 hq1 => ?_)
  obtain ⟨eq1, xq1⟩ := hq1
  rw [eq1]
  have f1 := rgT (q1.1)
  have f2 := lit_0
  refine Ok.eq (fun c3 => ?_) (fun c3 => ?_)
  · exact Ok.ret ⟨rfl, trivial⟩
  · refine Ok.bind (sf_X2_fitting (h0 := h0) n h x1 (by omega) j ) (fun q4 hq4 => ?_)
    obtain ⟨eq4, xq4⟩ := hq4
    rw [eq4]
    refine Ok.bind (sf_X2_bestTime (h0 := h0) n h q4.1 (by omega) j ) (fun q6 hq6 => ?_)
    obtain ⟨eq6, xq6⟩ := hq6
    rw [eq6]
    exact Ok.ret ⟨rfl, trivial⟩
set_option maxRecDepth 100000 in
set_option maxHeartbeats 4000000 in
theorem sf_X8_hush {h0 : Hp} (n : Nat) (h : Hp) (a : Nat) (x1 : Int32) (hn : 1 ≤ n) (j : J h0 h) (hs : Sc a) : Ok (F_X8_hush n h a x1) (fun q => J h0 q ∧ True) := by
  unfold F_X8_hush
  generalize eg1 : wrI h a 3 (((hi h a 3) : Int32) &&& (((((1 : Int32) <<< ((x1 : Int32) &&& 31)) : Int32) ^^^ ((-1) : Int32)) : Int32)) = g1
  have jg1 : J h0 g1 := JwI eg1 j (ncO_nc (scO hs).1)
  exact Ok.ret ⟨jg1, trivial⟩
set_option maxRecDepth 100000 in
set_option maxHeartbeats 4000000 in
theorem sf_X11_mow {h0 : Hp} (n : Nat) (h : Hp) (x1 : Int32) (hn : 17179869185 ≤ n) (j : J h0 h) : Ok (F_X11_mow n h x1) (fun q => J h0 q.2 ∧ True) := by
  unfold F_X11_mow
  refine Ok.bind (sf_X3_has (h0 := h0) n h 24 x1 (by omega) j fd_24) (fun q1 hq1 => ?_)
  obtain ⟨eq1, xq1⟩ := hq1
  rw [eq1]
  have f1 := rgT (q1.1)
  have f2 := lit_0
  refine Ok.eq (fun c3 => ?_) (fun c3 => ?_)
  · exact Ok.ret ⟨j, trivial⟩
  · have f4 := rgT (x1)
    refine Ok.bind (sf_X8_isTuned (h0 := h0) n h 30 x1 (by omega) j sc_30) (fun q4 hq4 => ?_)
    obtain ⟨eq4, xq4⟩ := hq4
    rw [eq4]
    have f5 := rgT (q4.1)
    refine Ok.eq (fun c6 => ?_) (fun c6 => ?_)
    · exact Ok.ret ⟨j, trivial⟩
    · refine Ok.bind (sf_X6_keep (h0 := h0) n h 30 (by omega) j sc_30) (fun q7 hq7 => ?_)
      obtain ⟨jq7, xq7⟩ := hq7
      refine Ok.bind (sf_X0_costOf (h0 := h0) n q7 23 30 x1 (by omega) jq7 bd_23 sc_30) (fun q9 hq9 => ?_)
      obtain ⟨jq9, xq9⟩ := hq9
      generalize eg7 : wrI q9.2 30 1 ((hi q9.2 30 1) + q9.1) = g7
      have jg7 : J h0 g7 := JwI eg7 jq9 (by decide)
      refine Ok.bind (sf_X8_hush (h0 := h0) n g7 30 x1 (by omega) jg7 sc_30) (fun q11 hq11 => ?_)
      obtain ⟨jq11, xq11⟩ := hq11
      exact Ok.ret ⟨jq11, trivial⟩
set_option maxRecDepth 100000 in
set_option maxHeartbeats 4000000 in
theorem sfW_X11_next_15 {h0 : Hp} : ∀ (n : Nat), (∀ (h : Hp) (l1 : Int32) (l2 : Int32), J h0 h → (1 : Int) < n → (1 : Int) + (7 - l2.toInt) < n → Ok (W_X11_next n 15 h l1 l2) (fun q => q.2 = h ∧ True)) := by
  intro n
  induction n with
  | zero => intro h l1 l2 j hB hM; exfalso; omega
  | succ n ih =>
    intro h l1 l2 j hB hM
    rw [u_X11_next]
    refine Ok.pos rfl ?_
    have f1 := lit_6
    have f2 := rgT (l2)
    refine Ok.lt (fun c3 => ?_) (fun c3 => ?_)
    · exact Ok.ret ⟨rfl, trivial⟩
    · refine Ok.bind (sf_X8_soundsAt (h0 := h0) n h 30 l1 ((hi h 30 0) + l2) (by omega) j sc_30) (fun q2 hq2 => ?_)
      obtain ⟨eq2, xq2⟩ := hq2
      rw [eq2]
      have f4 := rgT (q2.1)
      have f5 := lit_0
      refine Ok.eq (fun c6 => ?_) (fun c6 => ?_)
      · have f7 := lit_1
        first | have f8 := adT (l2) (1) (by omega) (by omega) | have f8 := adT (l2) (1)
        have f9 := rgT (l2 + 1)
        exact ih h l1 (l2 + 1) j   (by omega) (by omega)
      · exact Ok.ret ⟨rfl, trivial⟩
set_option maxRecDepth 100000 in
set_option maxHeartbeats 4000000 in
theorem sf_X11_next {h0 : Hp} (n : Nat) (h : Hp) (x1 : Int32) (hn : 17179869185 ≤ n) (j : J h0 h) : Ok (F_X11_next n h x1) (fun q => q.2 = h ∧ True) := by
  unfold F_X11_next
  refine Ok.bind (sf_X3_has (h0 := h0) n h 24 x1 (by omega) j fd_24) (fun q5 hq5 => ?_)
  obtain ⟨eq5, xq5⟩ := hq5
  rw [eq5]
  have f1 := rgT (q5.1)
  have f2 := lit_0
  refine Ok.eq (fun c3 => ?_) (fun c3 => ?_)
  · exact Ok.ret ⟨rfl, trivial⟩
  · have f4 := lit_1
    exact sfW_X11_next_15 (h0 := h0) n h x1 1 j   (by omega) (by omega)
set_option maxRecDepth 100000 in
set_option maxHeartbeats 4000000 in
theorem sf_X11_rope {h0 : Hp} (n : Nat) (h : Hp) (x1 : Int32) (x2 : Int32) (hn : 17179869185 ≤ n) (j : J h0 h) : Ok (F_X11_rope n h x1 x2) (fun q => J h0 q.2 ∧ True) := by
  unfold F_X11_rope
  refine Ok.bind (sf_X3_has (h0 := h0) n h 24 x1 (by omega) j fd_24) (fun q1 hq1 => ?_)
  obtain ⟨eq1, xq1⟩ := hq1
  rw [eq1]
  have f1 := rgT (q1.1)
  have f2 := lit_0
  refine Ok.eq (fun c3 => ?_) (fun c3 => ?_)
  · exact Ok.ret ⟨j, trivial⟩
  · refine Ok.bind (sf_X8_isRoped (h0 := h0) n h 30 x1 (by omega) j sc_30) (fun q4 hq4 => ?_)
    obtain ⟨eq4, xq4⟩ := hq4
    rw [eq4]
    have f4 := rgT (q4.1)
    have f5 := rgT (x2)
    refine Ok.eq (fun c6 => ?_) (fun c6 => ?_)
    · exact Ok.ret ⟨j, trivial⟩
    · refine Ok.bind (sf_X8_goersIn (h0 := h0) n h 30 x1 (hi h 23 2) (by omega) j sc_30) (fun q7 hq7 => ?_)
      obtain ⟨eq7, xq7⟩ := hq7
      rw [eq7]
      have f7 := rgT (q7.1)
      refine Ok.eq (fun c8 => ?_) (fun c8 => ?_)
      · refine Ok.eq (fun c9 => ?_) (fun c9 => ?_)
        · refine Ok.bind (sf_X6_keep (h0 := h0) n h 30 (by omega) j sc_30) (fun q11 hq11 => ?_)
          obtain ⟨jq11, xq11⟩ := hq11
          generalize eg10 : wrI q11 30 2 (((hi q11 30 2) : Int32) ^^^ (((1 : Int32) <<< ((x1 : Int32) &&& 31)) : Int32)) = g10
          have jg10 : J h0 g10 := JwI eg10 jq11 (by decide)
          exact Ok.ret ⟨jg10, trivial⟩
        · have f11 := rgT (x1)
          refine Ok.bind (sf_X8_isTuned (h0 := h0) n h 30 x1 (by omega) j sc_30) (fun q13 hq13 => ?_)
          obtain ⟨eq13, xq13⟩ := hq13
          rw [eq13]
          have f12 := rgT (q13.1)
          refine Ok.eq (fun c13 => ?_) (fun c13 => ?_)
          · refine Ok.bind (sf_X6_keep (h0 := h0) n h 30 (by omega) j sc_30) (fun q16 hq16 => ?_)
            obtain ⟨jq16, xq16⟩ := hq16
            generalize eg14 : wrI q16 30 2 (((hi q16 30 2) : Int32) ^^^ (((1 : Int32) <<< ((x1 : Int32) &&& 31)) : Int32)) = g14
            have jg14 : J h0 g14 := JwI eg14 jq16 (by decide)
            exact Ok.ret ⟨jg14, trivial⟩
          · exact Ok.ret ⟨j, trivial⟩
      · exact Ok.ret ⟨j, trivial⟩
set_option maxRecDepth 100000 in
set_option maxHeartbeats 4000000 in
theorem sfW_X11_together_26 {h0 : Hp} : ∀ (n : Nat), (∀ (h : Hp) (l1 : Int32) (l2 : Int32) (l3 : Int32), J h0 h → (1 : Int) < n → (1 : Int) + (60 - l3.toInt) < n → Ok (W_X11_together n 26 h l1 l2 l3) (fun q => q.2 = h ∧ True)) := by
  intro n
  induction n with
  | zero => intro h l1 l2 l3 j hB hM; exfalso; omega
  | succ n ih =>
    intro h l1 l2 l3 j hB hM
    rw [u_X11_together]
    refine Ok.pos rfl ?_
    have f1 := lit_60
    have f2 := rgT (l3)
    refine Ok.le (fun c3 => ?_) (fun c3 => ?_)
    · exact Ok.ret ⟨rfl, trivial⟩
    · refine Ok.bind (sf_X8_soundsAt (h0 := h0) n h 30 l1 ((hi h 30 0) + l3) (by omega) j sc_30) (fun q2 hq2 => ?_)
      obtain ⟨eq2, xq2⟩ := hq2
      rw [eq2]
      have f4 := rgT (q2.1)
      have f5 := lit_0
      refine Ok.eq (fun c6 => ?_) (fun c6 => ?_)
      · have f7 := lit_1
        first | have f8 := adT (l3) (1) (by omega) (by omega) | have f8 := adT (l3) (1)
        have f9 := rgT (l3 + 1)
        exact ih h l1 l2 (l3 + 1) j   (by omega) (by omega)
      · refine Ok.bind (sf_X8_soundsAt (h0 := h0) n h 30 l2 ((hi h 30 0) + l3) (by omega) j sc_30) (fun q5 hq5 => ?_)
        obtain ⟨eq5, xq5⟩ := hq5
        rw [eq5]
        have f10 := rgT (q5.1)
        refine Ok.eq (fun c11 => ?_) (fun c11 => ?_)
        · have f12 := lit_1
          first | have f13 := adT (l3) (1) (by omega) (by omega) | have f13 := adT (l3) (1)
          have f14 := rgT (l3 + 1)
          exact ih h l1 l2 (l3 + 1) j   (by omega) (by omega)
        · exact Ok.ret ⟨rfl, trivial⟩
set_option maxRecDepth 100000 in
set_option maxHeartbeats 4000000 in
theorem sf_X11_together {h0 : Hp} (n : Nat) (h : Hp) (x1 : Int32) (x2 : Int32) (hn : 17179869185 ≤ n) (j : J h0 h) : Ok (F_X11_together n h x1 x2) (fun q => q.2 = h ∧ True) := by
  unfold F_X11_together
  refine Ok.bind (sf_X3_has (h0 := h0) n h 24 x1 (by omega) j fd_24) (fun q8 hq8 => ?_)
  obtain ⟨eq8, xq8⟩ := hq8
  rw [eq8]
  have f1 := rgT (q8.1)
  have f2 := lit_0
  refine Ok.eq (fun c3 => ?_) (fun c3 => ?_)
  · exact Ok.ret ⟨rfl, trivial⟩
  · refine Ok.bind (sf_X3_has (h0 := h0) n h 24 x2 (by omega) j fd_24) (fun q11 hq11 => ?_)
    obtain ⟨eq11, xq11⟩ := hq11
    rw [eq11]
    have f4 := rgT (q11.1)
    refine Ok.eq (fun c5 => ?_) (fun c5 => ?_)
    · exact Ok.ret ⟨rfl, trivial⟩
    · exact sfW_X11_together_26 (h0 := h0) n h x1 x2 0 j   (by omega) (by omega)
set_option maxRecDepth 100000 in
set_option maxHeartbeats 4000000 in
theorem sf_X6_takeBack {h0 : Hp} (n : Nat) (h : Hp) (b1 : Nat) (hn : 1 ≤ n) (j : J h0 h) (ht1 : Sc b1) : Ok (F_X6_takeBack n h b1) (fun q => J h0 q.2 ∧ (0 ≤ q.1.toInt ∧ q.1.toInt ≤ 1)) := by
  unfold F_X6_takeBack
  have f1 := rgT (hi h 38 2)
  have f2 := lit_0
  refine Ok.eq (fun c3 => ?_) (fun c3 => ?_)
  · refine Ok.ret ⟨j, ?_⟩
    show (0 ≤ ((0) : Int32).toInt ∧ ((0) : Int32).toInt ≤ 1)
    omega
  · have f4 := cR 38 1 0 39 (by decide) j
    have f5 := rgT (hi h 38 1)
    refine Ok.chk (ixT (by omega) (by omega)) (fun c6 => ?_)
    refine Ok.bind (sf_X8_become (h0 := h0) n h b1 (40 + 4 * (Int32.toNatClampNeg (hi h 38 1))) (by omega) j ht1 (scPast (ixO_lt c6))) (fun q3 hq3 => ?_)
    obtain ⟨jq3, xq3⟩ := hq3
    generalize eg7 : wrI q3 38 1 ((((hi q3 38 1) + 40) - 1) - (((hi q3 38 1) + 40) - 1) / 40 * 40) = g7
    have f8 := cR 38 1 0 39 (by decide) jq3
    have f9 := rgT (hi q3 38 1)
    have f10 := lit_40
    first | have f11 := adT (hi q3 38 1) (40) (by omega) (by omega) | have f11 := adT (hi q3 38 1) (40)
    have f12 := rgT ((hi q3 38 1) + 40)
    have f13 := lit_1
    generalize ey14 : (((hi q3 38 1) + 40) - 1 : Int32) = y14
    first | have f15 := sbG ey14 rfl rfl (by omega) (by omega) | have f15 := sbG ey14 rfl rfl
    have f16 := rgT (y14)
    first | have f17 := rmI y14 (40) 40 lit_40 (by decide) (by omega) | have f17 := rmI y14 (40) 40 lit_40 (by decide)
    have f18 := rgT (y14 - y14 / 40 * 40)
    have jg7 : J h0 g7 := JwC 0 39 eg7 jq3 (by decide) (rm40 _ (by have e1 := adT (hi q3 38 1) 40; have e2 := sbT (hi q3 38 1 + 40) 1; have e3 := cR 38 1 0 39 (by decide) jq3; have e4 := lit_40; have e5 := lit_1; omega)) (by decide)
    generalize eg19 : wrI g7 38 2 ((hi g7 38 2) - 1) = g19
    have jg19 : J h0 g19 := JwI eg19 jg7 (by decide)
    refine Ok.ret ⟨jg19, ?_⟩
    show (0 ≤ ((1) : Int32).toInt ∧ ((1) : Int32).toInt ≤ 1)
    omega
set_option maxRecDepth 100000 in
set_option maxHeartbeats 4000000 in
theorem sf_X11_undo {h0 : Hp} (n : Nat) (h : Hp) (hn : 1 ≤ n) (j : J h0 h) : Ok (F_X11_undo n h) (fun q => J h0 q.2 ∧ True) := by
  unfold F_X11_undo
  refine Ok.bind (sf_X6_takeBack (h0 := h0) n h 30 (by omega) j sc_30) (fun q1 hq1 => ?_)
  obtain ⟨jq1, xq1⟩ := hq1
  have f1 := rgT (q1.1)
  refine Ok.bool ⟨by omega, by omega⟩ ?_
  exact Ok.ret ⟨jq1, trivial⟩
set_option maxRecDepth 100000 in
set_option maxHeartbeats 4000000 in
theorem sfW_X8_loudAt_10 {h0 : Hp} : ∀ (n : Nat), (∀ (h : Hp) (a : Nat) (l1 : Int32) (l2 : Int32) (l3 : Int32) (l4 : Int32), J h0 h → Sc a → (1 : Int) < n → (1 : Int) + (25 - l3.toInt) < n → Ok (W_X8_loudAt n 10 h a l1 l2 l3 l4) (fun q => q.2 = h ∧ True)) := by
  intro n
  induction n with
  | zero => intro h a l1 l2 l3 l4 j hs hB hM; exfalso; omega
  | succ n ih =>
    intro h a l1 l2 l3 l4 j hs hB hM
    rw [u_X8_loudAt]
    refine Ok.pos rfl ?_
    have f1 := lit_25
    have f2 := rgT (l3)
    refine Ok.le (fun c3 => ?_) (fun c3 => ?_)
    · exact Ok.ret ⟨rfl, trivial⟩
    · have f4 := rgT (l4)
      have f5 := lit_0
      refine Ok.eq (fun c6 => ?_) (fun c6 => ?_)
      · exact Ok.ret ⟨rfl, trivial⟩
      · refine Ok.bind (sf_X11_lowest (h0 := h0) n h l4 (by omega) j ) (fun q3 hq3 => ?_)
        obtain ⟨eq3, xq3⟩ := hq3
        rw [eq3]
        refine Ok.bind (sf_X8_soundsAt (h0 := h0) n h a q3.1 l1 (by omega) j hs) (fun q5 hq5 => ?_)
        obtain ⟨eq5, xq5⟩ := hq5
        rw [eq5]
        have f7 := rgT (q5.1)
        refine Ok.eq (fun c8 => ?_) (fun c8 => ?_)
        · have f9 := lit_1
          first | have f10 := adT (l3) (1) (by omega) (by omega) | have f10 := adT (l3) (1)
          have f11 := rgT (l3 + 1)
          exact ih h a l1 l2 (l3 + 1) ((l4 : Int32) &&& ((l4 - 1) : Int32)) j hs  (by omega) (by omega)
        · have f12 := lit_1
          first | have f13 := adT (l3) (1) (by omega) (by omega) | have f13 := adT (l3) (1)
          have f14 := rgT (l3 + 1)
          exact ih h a l1 ((l2 : Int32) ||| (((l4 : Int32) &&& ((-l4) : Int32)) : Int32)) (l3 + 1) ((l4 : Int32) &&& ((l4 - 1) : Int32)) j hs  (by omega) (by omega)
set_option maxRecDepth 100000 in
set_option maxHeartbeats 4000000 in
theorem sf_X8_loudAt {h0 : Hp} (n : Nat) (h : Hp) (a : Nat) (x1 : Int32) (hn : 17179869185 ≤ n) (j : J h0 h) (hs : Sc a) : Ok (F_X8_loudAt n h a x1) (fun q => q.2 = h ∧ True) := by
  unfold F_X8_loudAt
  have f1 := lit_0
  exact sfW_X8_loudAt_10 (h0 := h0) n h a x1 0 0 (hi h a 3) j hs  (by omega) (by omega)
set_option maxRecDepth 100000 in
set_option maxHeartbeats 4000000 in
theorem sfW_X11_chorus_16 {h0 : Hp} : ∀ (n : Nat), (∀ (h : Hp) (l1 : Int32) (l2 : Int32) (l3 : Int32) (l4 : Int32), J h0 h → (17179869185 : Int) < n → (17179869185 : Int) + (60 - l4.toInt) < n → Ok (W_X11_chorus n 16 h l1 l2 l3 l4) (fun q => q.2 = h ∧ True)) := by
  intro n
  induction n with
  | zero => intro h l1 l2 l3 l4 j hB hM; exfalso; omega
  | succ n ih =>
    intro h l1 l2 l3 l4 j hB hM
    rw [u_X11_chorus]
    refine Ok.pos rfl ?_
    have f1 := lit_60
    have f2 := rgT (l4)
    refine Ok.le (fun c3 => ?_) (fun c3 => ?_)
    · have f4 := rgT (l1)
      have f5 := lit_0
      refine Ok.eq (fun c6 => ?_) (fun c6 => ?_)
      · exact Ok.ret ⟨rfl, trivial⟩
      · exact Ok.ret ⟨rfl, trivial⟩
    · refine Ok.bind (sf_X8_loudAt (h0 := h0) n h 30 ((hi h 30 0) + l4) (by omega) j sc_30) (fun q3 hq3 => ?_)
      obtain ⟨eq3, xq3⟩ := hq3
      rw [eq3]
      refine Ok.bind (sf_J6_bitCount_0f7a4 (h0 := h0) n h q3.1 (by omega) j ) (fun q5 hq5 => ?_)
      obtain ⟨eq5, xq5⟩ := hq5
      rw [eq5]
      have f7 := rgT (q5.1)
      have f8 := rgT (l2)
      refine Ok.le (fun c9 => ?_) (fun c9 => ?_)
      · have f10 := lit_1
        first | have f11 := adT (l4) (1) (by omega) (by omega) | have f11 := adT (l4) (1)
        have f12 := rgT (l4 + 1)
        exact ih h l1 l2 l3 (l4 + 1) j   (by omega) (by omega)
      · have f13 := lit_1
        first | have f14 := adT (l4) (1) (by omega) (by omega) | have f14 := adT (l4) (1)
        have f15 := rgT (l4 + 1)
        exact ih h l1 q5.1 l4 (l4 + 1) j   (by omega) (by omega)
