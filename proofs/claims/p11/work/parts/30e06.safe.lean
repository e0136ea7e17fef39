/-! the class comes to its end, 7 -/
set_option maxRecDepth 100000 in
set_option maxHeartbeats 4000000 in
theorem sfW_X7_readText_14 {h0 : Hp} : ∀ (n : Nat), (∀ (h : Hp) (l1 : Int32) (l2 : Int32), J h0 h → (601295421440 : Int) < n → (601295421440 : Int) + (401 - l2.toInt) < n → Ok (W_X7_readText n 14 h l1 l2) (fun q => J h0 q.2 ∧ True)) := by
  intro n
  induction n with
  | zero => intro h l1 l2 j hB hM; exfalso; omega
  | succ n ih =>
    intro h l1 l2 j hB hM
    rw [u_X7_readText]
    refine Ok.pos rfl ?_
    have f1 := lit_400
    have f2 := rgT (l2)
    refine Ok.lt (fun c3 => ?_) (fun c3 => ?_)
    · have f4 := rgT (hi h 2 5)
      have f5 := lit_0
      refine Ok.eq (fun c6 => ?_) (fun c6 => ?_)
      · refine Ok.bind (sf_X7_layOut (h0 := h0) n h l1 (by omega) j ) (fun q3 hq3 => ?_)
        obtain ⟨jq3, xq3⟩ := hq3
        generalize eg7 : wrI q3 2 2 (hi q3 2 7) = g7
        have jg7 : J h0 g7 := JwI eg7 jq3 (by decide)
        exact Ok.ret ⟨jg7, trivial⟩
      · refine Ok.bind (sf_X9_placeOf (h0 := h0) n h (hi h 2 4) (by omega) j ) (fun q5 hq5 => ?_)
        obtain ⟨eq5, xq5⟩ := hq5
        rw [eq5]
        generalize eg8 : wrI h 2 2 q5.1 = g8
        have jg8 : J h0 g8 := JwI eg8 j (by decide)
        exact Ok.ret ⟨jg8, trivial⟩
    · have f9 := rgT (hi h 2 5)
      have f10 := lit_0
      refine Ok.eq (fun c11 => ?_) (fun c11 => ?_)
      · refine Ok.bind (sf_X7_kind (h0 := h0) n h  (by omega) j ) (fun q13 hq13 => ?_)
        obtain ⟨eq13, xq13⟩ := hq13
        rw [eq13]
        have f12 := rgT (q13.1)
        have f13 := lit_32
        refine Ok.eq (fun c14 => ?_) (fun c14 => ?_)
        · refine Ok.eq (fun c15 => ?_) (fun c15 => ?_)
          · refine Ok.bind (sf_X7_layOut (h0 := h0) n h l1 (by omega) j ) (fun q17 hq17 => ?_)
            obtain ⟨jq17, xq17⟩ := hq17
            generalize eg16 : wrI q17 2 2 (hi q17 2 7) = g16
            have jg16 : J h0 g16 := JwI eg16 jq17 (by decide)
            exact Ok.ret ⟨jg16, trivial⟩
          · refine Ok.bind (sf_X9_placeOf (h0 := h0) n h (hi h 2 4) (by omega) j ) (fun q19 hq19 => ?_)
            obtain ⟨eq19, xq19⟩ := hq19
            rw [eq19]
            generalize eg17 : wrI h 2 2 q19.1 = g17
            have jg17 : J h0 g17 := JwI eg17 j (by decide)
            exact Ok.ret ⟨jg17, trivial⟩
        · refine Ok.bind (sf_X7_kind (h0 := h0) n h  (by omega) j ) (fun q21 hq21 => ?_)
          obtain ⟨eq21, xq21⟩ := hq21
          rw [eq21]
          refine Ok.bind (sf_X7_readTell (h0 := h0) n h q21.1 (by omega) j ) (fun q23 hq23 => ?_)
          obtain ⟨jq23, xq23⟩ := hq23
          have f18 := lit_1
          first | have f19 := adT (l2) (1) (by omega) (by omega) | have f19 := adT (l2) (1)
          have f20 := rgT (l2 + 1)
          exact ih q23 l1 (l2 + 1) jq23   (by omega) (by omega)
      · refine Ok.eq (fun c21 => ?_) (fun c21 => ?_)
        · refine Ok.bind (sf_X7_layOut (h0 := h0) n h l1 (by omega) j ) (fun q9 hq9 => ?_)
          obtain ⟨jq9, xq9⟩ := hq9
          generalize eg22 : wrI q9 2 2 (hi q9 2 7) = g22
          have jg22 : J h0 g22 := JwI eg22 jq9 (by decide)
          exact Ok.ret ⟨jg22, trivial⟩
        · refine Ok.bind (sf_X9_placeOf (h0 := h0) n h (hi h 2 4) (by omega) j ) (fun q11 hq11 => ?_)
          obtain ⟨eq11, xq11⟩ := hq11
          rw [eq11]
          generalize eg23 : wrI h 2 2 q11.1 = g23
          have jg23 : J h0 g23 := JwI eg23 j (by decide)
          exact Ok.ret ⟨jg23, trivial⟩
set_option maxRecDepth 100000 in
set_option maxHeartbeats 4000000 in
theorem sf_X7_readText {h0 : Hp} (n : Nat) (h : Hp) (x1 : Int32) (hn : 618475290624 ≤ n) (j : J h0 h) : Ok (F_X7_readText n h x1) (fun q => J h0 q.2 ∧ True) := by
  unfold F_X7_readText
  refine Ok.bind (sf_X7_clear (h0 := h0) n h  (by omega) j ) (fun q25 hq25 => ?_)
  obtain ⟨jq25, xq25⟩ := hq25
  refine Ok.bind (sf_X9_scan (h0 := h0) n q25 x1 (by omega) jq25 ) (fun q27 hq27 => ?_)
  obtain ⟨jq27, xq27⟩ := hq27
  have f1 := lit_0
  exact sfW_X7_readText_14 (h0 := h0) n q27 x1 0 jq27   (by omega) (by omega)
set_option maxRecDepth 100000 in
set_option maxHeartbeats 4000000 in
theorem sfW_X11_everMoved_4 {h0 : Hp} : ∀ (n : Nat), (∀ (h : Hp) (l1 : Int32) (l2 : Int32), J h0 h → 0 ≤ l2.toInt → (1 : Int) < n → (1 : Int) + (5 - l2.toInt) < n → Ok (W_X11_everMoved n 4 h l1 l2) (fun q => q.2 = h ∧ True)) := by
  intro n
  induction n with
  | zero => intro h l1 l2 j i0 hB hM; exfalso; omega
  | succ n ih =>
    intro h l1 l2 j i0 hB hM
    rw [u_X11_everMoved]
    refine Ok.pos rfl ?_
    have f1 := cR 23 2 0 5 (by decide) j
    have f2 := rgT (hi h 23 2)
    have f3 := rgT (l2)
    refine Ok.le (fun c4 => ?_) (fun c4 => ?_)
    · exact Ok.ret ⟨rfl, trivial⟩
    · have f5 := lit_5
      refine Ok.le (fun c6 => ?_) (fun c6 => ?_)
      · exact Ok.ret ⟨rfl, trivial⟩
      · refine Ok.chk (ixT (by omega) (by omega)) (fun c7 => ?_)
        have f8 := rgT (hi h 33 (Int32.toNatClampNeg l2))
        have f9 := lit_0
        refine Ok.le (fun c10 => ?_) (fun c10 => ?_)
        · have f11 := lit_1
          first | have f12 := adT (l2) (1) (by omega) (by omega) | have f12 := adT (l2) (1)
          have f13 := rgT (l2 + 1)
          exact ih h l1 (l2 + 1) j  (by omega) (by omega) (by omega)
        · have f14 := lit_1
          first | have f15 := adT (l2) (1) (by omega) (by omega) | have f15 := adT (l2) (1)
          have f16 := rgT (l2 + 1)
          exact ih h ((l1 : Int32) ||| (((1 : Int32) <<< ((l2 : Int32) &&& 31)) : Int32)) (l2 + 1) j  (by omega) (by omega) (by omega)
set_option maxRecDepth 100000 in
set_option maxHeartbeats 4000000 in
theorem sf_X11_everMoved {h0 : Hp} (n : Nat) (h : Hp) (hn : 17179869185 ≤ n) (j : J h0 h) : Ok (F_X11_everMoved n h) (fun q => q.2 = h ∧ True) := by
  unfold F_X11_everMoved
  have f1 := lit_0
  exact sfW_X11_everMoved_4 (h0 := h0) n h 0 0 j  (by omega) (by omega) (by omega)
set_option maxRecDepth 100000 in
set_option maxHeartbeats 4000000 in
theorem sf_X11_isNoughtOrOne {h0 : Hp} (n : Nat) (h : Hp) (x1 : Int32) (hn : 1 ≤ n) (j : J h0 h) : Ok (F_X11_isNoughtOrOne n h x1) (fun q => q.2 = h ∧ True) := by
  unfold F_X11_isNoughtOrOne
  have f1 := rgT (x1)
  have f2 := lit_0
  refine Ok.eq (fun c3 => ?_) (fun c3 => ?_)
  · exact Ok.ret ⟨rfl, trivial⟩
  · have f4 := lit_1
    refine Ok.eq (fun c5 => ?_) (fun c5 => ?_)
    · exact Ok.ret ⟨rfl, trivial⟩
    · exact Ok.ret ⟨rfl, trivial⟩
set_option maxRecDepth 100000 in
set_option maxHeartbeats 4000000 in
theorem sf_X11_isSpan {h0 : Hp} (n : Nat) (h : Hp) (x1 : Int32) (hn : 1 ≤ n) (j : J h0 h) : Ok (F_X11_isSpan n h x1) (fun q => q.2 = h ∧ (q.1.toInt ≠ 0 → 0 ≤ x1.toInt ∧ x1.toInt ≤ 100)) := by
  unfold F_X11_isSpan
  have f1 := rgT (x1)
  have f2 := lit_0
  refine Ok.lt (fun c3 => ?_) (fun c3 => ?_)
  · refine Ok.ret ⟨rfl, ?_⟩
    show (((0) : Int32).toInt ≠ 0 → 0 ≤ x1.toInt ∧ x1.toInt ≤ 100)
    omega
  · have f4 := lit_100
    refine Ok.lt (fun c5 => ?_) (fun c5 => ?_)
    · refine Ok.ret ⟨rfl, ?_⟩
      show (((0) : Int32).toInt ≠ 0 → 0 ≤ x1.toInt ∧ x1.toInt ≤ 100)
      omega
    · have f6 := lit_1
      refine Ok.ret ⟨rfl, ?_⟩
      show (((1) : Int32).toInt ≠ 0 → 0 ≤ x1.toInt ∧ x1.toInt ≤ 100)
      omega
set_option maxRecDepth 100000 in
theorem sf_J6_bitCount_0f7a4 {h0 : Hp} (n : Nat) (h : Hp) (x1 : Int32) (hn : 1 ≤ n) (j : J h0 h) : Ok (F_J6_bitCount_0f7a4 n h x1) (fun q => q.2 = h ∧ (0 ≤ q.1.toInt ∧ q.1.toInt ≤ 63)) := by
  unfold F_J6_bitCount_0f7a4
  refine Ok.ret ⟨rfl, ?_⟩
  exact and_rg _ 63 63 (by decide) (by decide)
set_option maxRecDepth 100000 in
set_option maxHeartbeats 4000000 in
theorem sf_X11_lowest {h0 : Hp} (n : Nat) (h : Hp) (x1 : Int32) (hn : 1 ≤ n) (j : J h0 h) : Ok (F_X11_lowest n h x1) (fun q => q.2 = h ∧ (0 ≤ q.1.toInt ∧ q.1.toInt ≤ 63)) := by
  unfold F_X11_lowest
  refine Ok.bind (sf_J6_bitCount_0f7a4 (h0 := h0) n h (((x1 : Int32) &&& ((-x1) : Int32)) - 1) (by omega) j ) (fun q1 hq1 => ?_)
  obtain ⟨eq1, xq1⟩ := hq1
  rw [eq1]
  have f1 := rgT (q1.1)
  refine Ok.ret ⟨rfl, ?_⟩
  show (0 ≤ ((q1.1) : Int32).toInt ∧ ((q1.1) : Int32).toInt ≤ 63)
  omega
set_option maxRecDepth 100000 in
set_option maxHeartbeats 4000000 in
theorem sfW_X11_movedInAll_4 {h0 : Hp} : ∀ (n : Nat), (∀ (h : Hp) (l1 : Int32) (l2 : Int32), J h0 h → 0 ≤ l2.toInt → (1 : Int) < n → (1 : Int) + (5 - l2.toInt) < n → Ok (W_X11_movedInAll n 4 h l1 l2) (fun q => q.2 = h ∧ True)) := by
  intro n
  induction n with
  | zero => intro h l1 l2 j i0 hB hM; exfalso; omega
  | succ n ih =>
    intro h l1 l2 j i0 hB hM
    rw [u_X11_movedInAll]
    refine Ok.pos rfl ?_
    have f1 := cR 23 2 0 5 (by decide) j
    have f2 := rgT (hi h 23 2)
    have f3 := rgT (l2)
    refine Ok.le (fun c4 => ?_) (fun c4 => ?_)
    · exact Ok.ret ⟨rfl, trivial⟩
    · have f5 := lit_5
      refine Ok.le (fun c6 => ?_) (fun c6 => ?_)
      · exact Ok.ret ⟨rfl, trivial⟩
      · refine Ok.chk (ixT (by omega) (by omega)) (fun c7 => ?_)
        have f8 := lit_1
        first | have f9 := adT (l2) (1) (by omega) (by omega) | have f9 := adT (l2) (1)
        have f10 := rgT (l2 + 1)
        exact ih h (l1 + (hi h 33 (Int32.toNatClampNeg l2))) (l2 + 1) j  (by omega) (by omega) (by omega)
set_option maxRecDepth 100000 in
set_option maxHeartbeats 4000000 in
theorem sf_X11_movedInAll {h0 : Hp} (n : Nat) (h : Hp) (hn : 17179869185 ≤ n) (j : J h0 h) : Ok (F_X11_movedInAll n h) (fun q => q.2 = h ∧ True) := by
  unfold F_X11_movedInAll
  have f1 := lit_0
  exact sfW_X11_movedInAll_4 (h0 := h0) n h 0 0 j  (by omega) (by omega) (by omega)
set_option maxRecDepth 100000 in
set_option maxHeartbeats 4000000 in
theorem sf_X11_place {h0 : Hp} (n : Nat) (h : Hp) (hn : 1 ≤ n) (j : J h0 h) : Ok (F_X11_place n h) (fun q => q.2 = h ∧ True) := by
  unfold F_X11_place
  exact Ok.ret ⟨rfl, trivial⟩
set_option maxRecDepth 100000 in
set_option maxHeartbeats 4000000 in
theorem sf_X3_has {h0 : Hp} (n : Nat) (h : Hp) (a : Nat) (x1 : Int32) (hn : 1 ≤ n) (j : J h0 h) (hs : IsFd a) : Ok (F_X3_has n h a x1) (fun q => q.2 = h ∧ True) := by
  unfold F_X3_has
  have f1 := rgT (x1)
  have f2 := lit_0
  refine Ok.lt (fun c3 => ?_) (fun c3 => ?_)
  · exact Ok.ret ⟨rfl, trivial⟩
  · have f4 := rgT ((hi h a 0) * (hi h a 1))
    refine Ok.le (fun c5 => ?_) (fun c5 => ?_)
    · exact Ok.ret ⟨rfl, trivial⟩
    · exact Ok.ret ⟨rfl, trivial⟩
set_option maxRecDepth 100000 in
set_option maxHeartbeats 4000000 in
theorem sf_X3_grown {h0 : Hp} (n : Nat) (h : Hp) (a : Nat) (x1 : Int32) (hn : 1 ≤ n) (j : J h0 h) (hs : IsFd a) : Ok (F_X3_grown n h a x1) (fun q => q.2 = h ∧ True) := by
  unfold F_X3_grown
  exact Ok.ret ⟨rfl, trivial⟩
set_option maxRecDepth 100000 in
set_option maxHeartbeats 4000000 in
theorem sfW_X3_steps_8 {h0 : Hp} : ∀ (n : Nat), (∀ (h : Hp) (a : Nat) (l1 : Int32) (l2 : Int32) (l3 : Int32) (l4 : Int32) (l5 : Int32), J h0 h → IsFd a → (1 : Int) < n → (1 : Int) + (26 - l5.toInt) < n → Ok (W_X3_steps n 8 h a l1 l2 l3 l4 l5) (fun q => q.2 = h ∧ True)) := by
  intro n
  induction n with
  | zero => intro h a l1 l2 l3 l4 l5 j hs hB hM; exfalso; omega
  | succ n ih =>
    intro h a l1 l2 l3 l4 l5 j hs hB hM
    rw [u_X3_steps]
    refine Ok.pos rfl ?_
    have f1 := lit_25
    have f2 := rgT (l5)
    refine Ok.lt (fun c3 => ?_) (fun c3 => ?_)
    · exact Ok.ret ⟨rfl, trivial⟩
    · have f4 := and_rg ((((l4 : Int32).toUInt32 >>> ((l2 : Int32).toUInt32 &&& Int32.toUInt32 31)).toInt32) : Int32) (1 : Int32) 1 lit_1 (by decide)
      have f5 := lit_0
      refine Ok.eq (fun c6 => ?_) (fun c6 => ?_)
      · refine Ok.bind (sf_X3_grown (h0 := h0) n h a l4 (by omega) j hs) (fun q3 hq3 => ?_)
        obtain ⟨eq3, xq3⟩ := hq3
        rw [eq3]
        have f7 := lit_1
        first | have f8 := adT (l5) (1) (by omega) (by omega) | have f8 := adT (l5) (1)
        have f9 := rgT (l5 + 1)
        exact ih h a l1 l2 l3 ((l4 : Int32) ||| (((q3.1 : Int32) &&& (l3 : Int32)) : Int32)) (l5 + 1) j hs  (by omega) (by omega)
      · exact Ok.ret ⟨rfl, trivial⟩
set_option maxRecDepth 100000 in
set_option maxHeartbeats 4000000 in
theorem sf_X3_steps {h0 : Hp} (n : Nat) (h : Hp) (a : Nat) (x1 : Int32) (x2 : Int32) (x3 : Int32) (hn : 17179869185 ≤ n) (j : J h0 h) (hs : IsFd a) : Ok (F_X3_steps n h a x1 x2 x3) (fun q => q.2 = h ∧ True) := by
  unfold F_X3_steps
  have f1 := lit_0
  exact sfW_X3_steps_8 (h0 := h0) n h a x1 x2 x3 ((1 : Int32) <<< ((x1 : Int32) &&& 31)) 0 j hs  (by omega) (by omega)
set_option maxRecDepth 100000 in
set_option maxHeartbeats 4000000 in
theorem sf_X11_far {h0 : Hp} (n : Nat) (h : Hp) (x1 : Int32) (x2 : Int32) (hn : 17179869185 ≤ n) (j : J h0 h) : Ok (F_X11_far n h x1 x2) (fun q => q.2 = h ∧ True) := by
  unfold F_X11_far
  refine Ok.bind (sf_X3_has (h0 := h0) n h 24 x1 (by omega) j fd_24) (fun q1 hq1 => ?_)
  obtain ⟨eq1, xq1⟩ := hq1
  rw [eq1]
  have f1 := rgT (q1.1)
  have f2 := lit_0
  refine Ok.eq (fun c3 => ?_) (fun c3 => ?_)
  · exact Ok.ret ⟨rfl, trivial⟩
  · refine Ok.bind (sf_X3_has (h0 := h0) n h 24 x2 (by omega) j fd_24) (fun q4 hq4 => ?_)
    obtain ⟨eq4, xq4⟩ := hq4
    rw [eq4]
    have f4 := rgT (q4.1)
    refine Ok.eq (fun c5 => ?_) (fun c5 => ?_)
    · exact Ok.ret ⟨rfl, trivial⟩
    · refine Ok.bind (sf_X3_steps (h0 := h0) n h 24 x1 x2 (((((hi h 24 2) : Int32) &&& ((((hi h 30 2) : Int32) ^^^ ((-1) : Int32)) : Int32)) : Int32) ||| (((1 : Int32) <<< ((x2 : Int32) &&& 31)) : Int32)) (by omega) j fd_24) (fun q7 hq7 => ?_)
      obtain ⟨eq7, xq7⟩ := hq7
      rw [eq7]
      have f6 := rgT (q7.1)
      refine Ok.eqV rfl lit_m1 (fun c7 => ?_) (fun c7 => ?_)
      · exact Ok.ret ⟨rfl, trivial⟩
      · exact Ok.ret ⟨rfl, trivial⟩
set_option maxRecDepth 100000 in
set_option maxHeartbeats 4000000 in
theorem sf_X2_clear {h0 : Hp} (n : Nat) (h : Hp) (hn : 1 ≤ n) (j : J h0 h) : Ok (F_X2_clear n h) (fun q => J h0 q ∧ True) := by
  unfold F_X2_clear
  generalize eg1 : wrI h 201 2 0 = g1
  have f2 := lit_0
  have jg1 : J h0 g1 := JwC 0 20 eg1 j (by decide) ⟨by omega, by omega⟩ (by decide)
  exact Ok.ret ⟨jg1, trivial⟩
set_option maxRecDepth 100000 in
set_option maxHeartbeats 4000000 in
theorem sf_X11_forget {h0 : Hp} (n : Nat) (h : Hp) (hn : 1 ≤ n) (j : J h0 h) : Ok (F_X11_forget n h) (fun q => J h0 q.2 ∧ True) := by
  unfold F_X11_forget
  refine Ok.bind (sf_X2_clear (h0 := h0) n h  (by omega) j ) (fun q1 hq1 => ?_)
  obtain ⟨jq1, xq1⟩ := hq1
  exact Ok.ret ⟨jq1, trivial⟩
set_option maxRecDepth 100000 in
set_option maxHeartbeats 4000000 in
theorem sf_X8_become {h0 : Hp} (n : Nat) (h : Hp) (a : Nat) (b1 : Nat) (hn : 1 ≤ n) (j : J h0 h) (hs : Sc a) (ht1 : Sc b1) : Ok (F_X8_become n h a b1) (fun q => J h0 q ∧ True) := by
  unfold F_X8_become
  generalize eg1 : wrI h a 0 (hi h b1 0) = g1
  have jg1 : J h0 g1 := JwI eg1 j (ncO_nc (scO hs).1)
  generalize eg2 : wrI g1 a 1 (hi g1 b1 1) = g2
  have jg2 : J h0 g2 := JwI eg2 jg1 (ncO_nc (scO hs).1)
  generalize eg3 : wrI g2 a 2 (hi g2 b1 2) = g3
  have jg3 : J h0 g3 := JwI eg3 jg2 (ncO_nc (scO hs).1)
  generalize eg4 : wrI g3 a 3 (hi g3 b1 3) = g4
  have jg4 : J h0 g4 := JwI eg4 jg3 (ncO_nc (scO hs).1)
  generalize eg5 : wrA g4 (a + 1) (cpF g4 (b1 + 1) (a + 1) 25) = g5
  have jg5 : J h0 g5 := JwA eg5 jg4 (scO hs).2.1
  generalize eg6 : wrA g5 (a + 2) (cpF g5 (b1 + 2) (a + 2) 5) = g6
  have jg6 : J h0 g6 := JwA eg6 jg5 (scO hs).2.2.1
  generalize eg7 : wrA g6 (a + 3) (cpF g6 (b1 + 3) (a + 3) 5) = g7
  have jg7 : J h0 g7 := JwA eg7 jg6 (scO hs).2.2.2
  exact Ok.ret ⟨jg7, trivial⟩
set_option maxRecDepth 100000 in
set_option maxHeartbeats 4000000 in
theorem sf_X11_hold {h0 : Hp} (n : Nat) (h : Hp) (x1 : Int32) (hn : 1 ≤ n) (j : J h0 h) : Ok (F_X11_hold n h x1) (fun q => J h0 q.2 ∧ True) := by
  unfold F_X11_hold
  have f1 := rgT (x1)
  have f2 := lit_0
  refine Ok.lt (fun c3 => ?_) (fun c3 => ?_)
  · exact Ok.ret ⟨j, trivial⟩
  · have f4 := lit_3
    refine Ok.lt (fun c5 => ?_) (fun c5 => ?_)
    · refine Ok.chk (ixT (by omega) (by omega)) (fun c6 => ?_)
      refine Ok.bind (sf_X8_become (h0 := h0) n h (214 + 4 * (Int32.toNatClampNeg x1)) 30 (by omega) j (scSlot (ixO_lt c6)) sc_30) (fun q4 hq4 => ?_)
      obtain ⟨jq4, xq4⟩ := hq4
      generalize eg7 : wrI q4 0 10 (((hi q4 0 10) : Int32) ||| (((1 : Int32) <<< ((x1 : Int32) &&& 31)) : Int32)) = g7
      have jg7 : J h0 g7 := JwI eg7 jq4 (by decide)
      exact Ok.ret ⟨jg7, trivial⟩
    · exact Ok.ret ⟨j, trivial⟩
