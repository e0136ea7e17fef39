/-! the class comes to its end, 5 -/
set_option maxRecDepth 100000 in
set_option maxHeartbeats 4000000 in
theorem sfW_X7_readGoer_64 {h0 : Hp} : ∀ (n : Nat), (∀ (h : Hp) (l1 : Int32) (l2 : Int32) (l3 : Int32), J h0 h → 0 ≤ l1.toInt → l1.toInt < 5 → 0 ≤ l3.toInt → (hi h 3 2).toInt = l1.toInt → (1 : Int) < n → (1 : Int) + (l1.toInt - l3.toInt) < n → Ok (W_X7_readGoer n 64 h l1 l2 l3) (fun q => J h0 q ∧ True)) := by
  intro n
  induction n with
  | zero => intro h l1 l2 l3 j i0 i1 i2 i3 hB hM; exfalso; omega
  | succ n ih =>
    intro h l1 l2 l3 j i0 i1 i2 i3 hB hM
    rw [u_X7_readGoer]
    refine Ok.pos rfl ?_
    have f1 := rgT (l1)
    have f2 := rgT (l3)
    refine Ok.le (fun c3 => ?_) (fun c3 => ?_)
    · have f4 := cR 3 2 0 5 (by decide) j
      refine Ok.bind (sf_X7_takeSpot (h0 := h0) n h  (by omega) j ) (fun q2 hq2 => ?_)
      obtain ⟨jq2, xq2⟩ := hq2
      refine Ok.chk (ixT (by omega) (by omega)) (fun c5 => ?_)
      generalize eg6 : wrI q2.2 15 (Int32.toNatClampNeg l1) q2.1 = g6
      have jg6 : J h0 g6 := JwI eg6 jq2 (ncO_nc (by decide))
      generalize eg7 : wrI g6 3 2 ((hi g6 3 2) + 1) = g7
      have f8 := congrArg Int32.toInt (hiA eg6 3 2 (by decide))
      have f9 := cR 3 2 0 5 (by decide) jq2
      have f10 := rgT (hi g6 3 2)
      have f11 := lit_1
      first | have f12 := adT (hi g6 3 2) (1) (by omega) (by omega) | have f12 := adT (hi g6 3 2) (1)
      have f13 := rgT ((hi g6 3 2) + 1)
      have jg7 : J h0 g7 := JwC 0 5 eg7 jg6 (by decide) ⟨by omega, by omega⟩ (by decide)
      exact Ok.ret ⟨jg7, trivial⟩
    · refine Ok.chk (ixT (by omega) (by omega)) (fun c14 => ?_)
      refine Ok.chk (ixT (by omega) (by omega)) (fun c15 => ?_)
      have f16 := rgT (lg_cmp (hl h 14 (Int32.toNatClampNeg l3)) (hl h 14 (Int32.toNatClampNeg l1)))
      have f17 := lit_0
      refine Ok.eq (fun c18 => ?_) (fun c18 => ?_)
      · have f19 := cR 3 2 0 5 (by decide) j
        refine Ok.bind (sf_X7_blame (h0 := h0) n h 3 l2 (by omega) j ) (fun q8 hq8 => ?_)
        obtain ⟨jq8, xq8⟩ := hq8
        have f20 := lit_1
        first | have f21 := adT (l3) (1) (by omega) (by omega) | have f21 := adT (l3) (1)
        have f22 := rgT (l3 + 1)
        have f23 := cR 3 2 0 5 (by decide) jq8
        exact ih q8 l1 l2 (l3 + 1) jq8  (by omega) (by omega) (by omega) (by omega) (by omega) (by omega)
      · have f24 := lit_1
        first | have f25 := adT (l3) (1) (by omega) (by omega) | have f25 := adT (l3) (1)
        have f26 := rgT (l3 + 1)
        have f27 := cR 3 2 0 5 (by decide) j
        exact ih h l1 l2 (l3 + 1) j  (by omega) (by omega) (by omega) (by omega) (by omega) (by omega)
set_option maxRecDepth 100000 in
set_option maxHeartbeats 4000000 in
theorem sf_X7_readGoer {h0 : Hp} (n : Nat) (h : Hp) (hn : 17179869185 ≤ n) (j : J h0 h) : Ok (F_X7_readGoer n h) (fun q => J h0 q ∧ True) := by
  unfold F_X7_readGoer
  have f1 := cR 3 2 0 5 (by decide) j
  have f2 := rgT (hi h 3 2)
  have f3 := lit_5
  refine Ok.lt (fun c4 => ?_) (fun c4 => ?_)
  · refine Ok.bind (sf_X7_take (h0 := h0) n h 11 (by omega) j ) (fun q11 hq11 => ?_)
    obtain ⟨jq11, xq11⟩ := hq11
    refine Ok.bind (sf_X9_valueOf (h0 := h0) n q11.2 (hi q11.2 2 4) (by omega) jq11 ) (fun q13 hq13 => ?_)
    obtain ⟨eq13, xq13⟩ := hq13
    rw [eq13]
    refine Ok.chk (ixT (by omega) (by omega)) (fun c5 => ?_)
    generalize eg6 : wrL q11.2 14 (Int32.toNatClampNeg (hi h 3 2)) q13.1 = g6
    have jg6 : J h0 g6 := JwL eg6 jq11 (by decide)
    refine Ok.bind (sf_X9_placeOf (h0 := h0) n g6 (hi g6 2 4) (by omega) jg6 ) (fun q16 hq16 => ?_)
    obtain ⟨eq16, xq16⟩ := hq16
    rw [eq16]
    have f7 := congrArg Int32.toInt (hiLL eg6 3 2)
    have f8 := cR 3 2 0 5 (by decide) jq11
    have f9 := congrArg Int32.toInt (hiLL eg6 2 5)
    refine Ok.bind (sf_X7_take (h0 := h0) n g6 31 (by omega) jg6 ) (fun q18 hq18 => ?_)
    obtain ⟨jq18, xq18⟩ := hq18
    have f10 := lit_0
    have f11 := cR 3 2 0 5 (by decide) jq18
    exact sfW_X7_readGoer_64 (h0 := h0) n q18.2 (hi h 3 2) q16.1 0 jq18  (by omega) (by omega) (by omega) (by omega) (by omega) (by omega)
  · have f12 := lit_2
    refine Ok.bind (sf_X7_stop (h0 := h0) n h 2 (by omega) j ) (fun q20 hq20 => ?_)
    obtain ⟨jq20, xq20⟩ := hq20
    exact Ok.ret ⟨jq20, trivial⟩
set_option maxRecDepth 100000 in
set_option maxHeartbeats 4000000 in
theorem sf_X7_readRope {h0 : Hp} (n : Nat) (h : Hp) (hn : 1 ≤ n) (j : J h0 h) : Ok (F_X7_readRope n h) (fun q => J h0 q ∧ True) := by
  unfold F_X7_readRope
  have f1 := rgT (hi h 2 14)
  have f2 := lit_8
  refine Ok.lt (fun c3 => ?_) (fun c3 => ?_)
  · generalize eg4 : wrI h 2 14 ((hi h 2 14) + 1) = g4
    have jg4 : J h0 g4 := JwI eg4 j (by decide)
    have f5 := congrArg Int32.toInt (hiA eg4 3 2 (by decide))
    have f6 := cR 3 2 0 5 (by decide) j
    have f7 := congrArg Int32.toInt (hiK eg4 2 5 (by decide))
    refine Ok.bind (sf_X7_take (h0 := h0) n g4 12 (by omega) jg4 ) (fun q2 hq2 => ?_)
    obtain ⟨jq2, xq2⟩ := hq2
    have f8 := cR 3 2 0 5 (by decide) jq2
    refine Ok.bind (sf_X7_takeSpot (h0 := h0) n q2.2  (by omega) jq2 ) (fun q4 hq4 => ?_)
    obtain ⟨jq4, xq4⟩ := hq4
    generalize eg9 : wrI q4.2 2 12 (((hi q2.2 2 12) : Int32) ||| (((1 : Int32) <<< ((q4.1 : Int32) &&& 31)) : Int32)) = g9
    have jg9 : J h0 g9 := JwI eg9 jq4 (by decide)
    exact Ok.ret ⟨jg9, trivial⟩
  · have f10 := lit_2
    have f11 := cR 3 2 0 5 (by decide) j
    refine Ok.bind (sf_X7_stop (h0 := h0) n h 2 (by omega) j ) (fun q6 hq6 => ?_)
    obtain ⟨jq6, xq6⟩ := hq6
    generalize eg12 : wrI q6 2 14 ((hi q6 2 14) + 1) = g12
    have jg12 : J h0 g12 := JwI eg12 jq6 (by decide)
    have f13 := congrArg Int32.toInt (hiA eg12 3 2 (by decide))
    have f14 := cR 3 2 0 5 (by decide) jq6
    have f15 := congrArg Int32.toInt (hiK eg12 2 5 (by decide))
    refine Ok.bind (sf_X7_take (h0 := h0) n g12 12 (by omega) jg12 ) (fun q8 hq8 => ?_)
    obtain ⟨jq8, xq8⟩ := hq8
    have f16 := cR 3 2 0 5 (by decide) jq8
    refine Ok.bind (sf_X7_takeSpot (h0 := h0) n q8.2  (by omega) jq8 ) (fun q10 hq10 => ?_)
    obtain ⟨jq10, xq10⟩ := hq10
    generalize eg17 : wrI q10.2 2 12 (((hi q8.2 2 12) : Int32) ||| (((1 : Int32) <<< ((q10.1 : Int32) &&& 31)) : Int32)) = g17
    have jg17 : J h0 g17 := JwI eg17 jq10 (by decide)
    exact Ok.ret ⟨jg17, trivial⟩
set_option maxRecDepth 100000 in
set_option maxHeartbeats 4000000 in
theorem sf_X7_readUnit {h0 : Hp} {e : Nat} {S : Nat → Hp → Int32 → Option Hp} (hS : ∀ (n : Nat) (h : Hp) (x1 : Int32), 17179869184 * (19 + e) ≤ n → J h0 h → 0 ≤ x1.toInt → x1.toInt ≤ 6 → 7 - x1.toInt ≤ e - 1 → Ok (S n h x1) (fun q => J h0 q ∧ True)) (n : Nat) (h : Hp) (x1 : Int32) (hn : 17179869184 * (19 + e) ≤ n) (j : J h0 h) (p0 : 0 ≤ x1.toInt) (p1 : x1.toInt ≤ 6) (p2 : 7 - x1.toInt ≤ e) : Ok (F_X7_readUnit S n h x1) (fun q => J h0 q ∧ True) := by
  unfold F_X7_readUnit
  refine Ok.bind (sf_X7_kind (h0 := h0) n h  (by omega) j ) (fun q1 hq1 => ?_)
  obtain ⟨eq1, xq1⟩ := hq1
  rw [eq1]
  have f1 := rgT (q1.1)
  have f2 := lit_30
  refine Ok.eq (fun c3 => ?_) (fun c3 => ?_)
  · refine Ok.bind (sf_X9_valueOf (h0 := h0) n h (hi h 2 4) (by omega) j ) (fun q50 hq50 => ?_)
    obtain ⟨eq50, xq50⟩ := hq50
    rw [eq50]
    refine Ok.bind (sf_X4_add (h0 := h0) n h 5 ((q50.1 : Int64).toInt32) (by omega) j lw_5) (fun q52 hq52 => ?_)
    obtain ⟨jq52, xq52⟩ := hq52
    have f4 := cR 3 2 0 5 (by decide) jq52
    refine Ok.bind (sf_X7_take (h0 := h0) n q52 q1.1 (by omega) jq52 ) (fun q54 hq54 => ?_)
    obtain ⟨jq54, xq54⟩ := hq54
    exact Ok.ret ⟨jq54, trivial⟩
  · have f5 := lit_0
    refine Ok.lt (fun c6 => ?_) (fun c6 => ?_)
    · have f7 := lit_40
      refine Ok.eq (fun c8 => ?_) (fun c8 => ?_)
      · have f9 := rgT (x1)
        have f10 := lit_6
        refine Ok.lt (fun c11 => ?_) (fun c11 => ?_)
        · have f12 := cR 3 2 0 5 (by decide) j
          refine Ok.bind (sf_X7_take (h0 := h0) n h q1.1 (by omega) j ) (fun q7 hq7 => ?_)
          obtain ⟨jq7, xq7⟩ := hq7
          have f13 := rgT (q7.1)
          refine Ok.eq (fun c14 => ?_) (fun c14 => ?_)
          · exact Ok.ret ⟨jq7, trivial⟩
          · have f15 := lit_1
            first | have f16 := adT (x1) (1) (by omega) (by omega) | have f16 := adT (x1) (1)
            have f17 := rgT (x1 + 1)
            refine Ok.bind (hS n q7.2 (x1 + 1) (by omega) jq7 (by omega) (by omega) (by omega)) (fun q10 hq10 => ?_)
            obtain ⟨jq10, xq10⟩ := hq10
            have f18 := cR 3 2 0 5 (by decide) jq10
            refine Ok.bind (sf_X7_take (h0 := h0) n q10 41 (by omega) jq10 ) (fun q12 hq12 => ?_)
            obtain ⟨jq12, xq12⟩ := hq12
            exact Ok.ret ⟨jq12, trivial⟩
        · have f19 := lit_2
          have f20 := cR 3 2 0 5 (by decide) j
          refine Ok.bind (sf_X7_stop (h0 := h0) n h 2 (by omega) j ) (fun q14 hq14 => ?_)
          obtain ⟨jq14, xq14⟩ := hq14
          have f21 := cR 3 2 0 5 (by decide) jq14
          refine Ok.bind (sf_X7_take (h0 := h0) n q14 q1.1 (by omega) jq14 ) (fun q16 hq16 => ?_)
          obtain ⟨jq16, xq16⟩ := hq16
          have f22 := rgT (q16.1)
          refine Ok.eq (fun c23 => ?_) (fun c23 => ?_)
          · exact Ok.ret ⟨jq16, trivial⟩
          · have f24 := lit_1
            first | have f25 := adT (x1) (1) (by omega) (by omega) | have f25 := adT (x1) (1)
            have f26 := rgT (x1 + 1)
            refine Ok.bind (hS n q16.2 (x1 + 1) (by omega) jq16 (by omega) (by omega) (by omega)) (fun q19 hq19 => ?_)
            obtain ⟨jq19, xq19⟩ := hq19
            have f27 := cR 3 2 0 5 (by decide) jq19
            refine Ok.bind (sf_X7_take (h0 := h0) n q19 41 (by omega) jq19 ) (fun q21 hq21 => ?_)
            obtain ⟨jq21, xq21⟩ := hq21
            exact Ok.ret ⟨jq21, trivial⟩
      · have f28 := lit_1
        have f29 := cR 3 2 0 5 (by decide) j
        refine Ok.bind (sf_X7_stop (h0 := h0) n h 1 (by omega) j ) (fun q23 hq23 => ?_)
        obtain ⟨jq23, xq23⟩ := hq23
        exact Ok.ret ⟨jq23, trivial⟩
    · have f30 := lit_9
      refine Ok.le (fun c31 => ?_) (fun c31 => ?_)
      · have f32 := lit_40
        refine Ok.eq (fun c33 => ?_) (fun c33 => ?_)
        · have f34 := rgT (x1)
          have f35 := lit_6
          refine Ok.lt (fun c36 => ?_) (fun c36 => ?_)
          · have f37 := cR 3 2 0 5 (by decide) j
            refine Ok.bind (sf_X7_take (h0 := h0) n h q1.1 (by omega) j ) (fun q28 hq28 => ?_)
            obtain ⟨jq28, xq28⟩ := hq28
            have f38 := rgT (q28.1)
            refine Ok.eq (fun c39 => ?_) (fun c39 => ?_)
            · exact Ok.ret ⟨jq28, trivial⟩
            · have f40 := lit_1
              first | have f41 := adT (x1) (1) (by omega) (by omega) | have f41 := adT (x1) (1)
              have f42 := rgT (x1 + 1)
              refine Ok.bind (hS n q28.2 (x1 + 1) (by omega) jq28 (by omega) (by omega) (by omega)) (fun q31 hq31 => ?_)
              obtain ⟨jq31, xq31⟩ := hq31
              have f43 := cR 3 2 0 5 (by decide) jq31
              refine Ok.bind (sf_X7_take (h0 := h0) n q31 41 (by omega) jq31 ) (fun q33 hq33 => ?_)
              obtain ⟨jq33, xq33⟩ := hq33
              exact Ok.ret ⟨jq33, trivial⟩
          · have f44 := lit_2
            have f45 := cR 3 2 0 5 (by decide) j
            refine Ok.bind (sf_X7_stop (h0 := h0) n h 2 (by omega) j ) (fun q35 hq35 => ?_)
            obtain ⟨jq35, xq35⟩ := hq35
            have f46 := cR 3 2 0 5 (by decide) jq35
            refine Ok.bind (sf_X7_take (h0 := h0) n q35 q1.1 (by omega) jq35 ) (fun q37 hq37 => ?_)
            obtain ⟨jq37, xq37⟩ := hq37
            have f47 := rgT (q37.1)
            refine Ok.eq (fun c48 => ?_) (fun c48 => ?_)
            · exact Ok.ret ⟨jq37, trivial⟩
            · have f49 := lit_1
              first | have f50 := adT (x1) (1) (by omega) (by omega) | have f50 := adT (x1) (1)
              have f51 := rgT (x1 + 1)
              refine Ok.bind (hS n q37.2 (x1 + 1) (by omega) jq37 (by omega) (by omega) (by omega)) (fun q40 hq40 => ?_)
              obtain ⟨jq40, xq40⟩ := hq40
              have f52 := cR 3 2 0 5 (by decide) jq40
              refine Ok.bind (sf_X7_take (h0 := h0) n q40 41 (by omega) jq40 ) (fun q42 hq42 => ?_)
              obtain ⟨jq42, xq42⟩ := hq42
              exact Ok.ret ⟨jq42, trivial⟩
        · have f53 := lit_1
          have f54 := cR 3 2 0 5 (by decide) j
          refine Ok.bind (sf_X7_stop (h0 := h0) n h 1 (by omega) j ) (fun q44 hq44 => ?_)
          obtain ⟨jq44, xq44⟩ := hq44
          exact Ok.ret ⟨jq44, trivial⟩
      · refine Ok.bind (sf_X4_add (h0 := h0) n h 5 ((-1) - q1.1) (by omega) j lw_5) (fun q46 hq46 => ?_)
        obtain ⟨jq46, xq46⟩ := hq46
        have f55 := cR 3 2 0 5 (by decide) jq46
        refine Ok.bind (sf_X7_take (h0 := h0) n q46 q1.1 (by omega) jq46 ) (fun q48 hq48 => ?_)
        obtain ⟨jq48, xq48⟩ := hq48
        exact Ok.ret ⟨jq48, trivial⟩
set_option maxRecDepth 100000 in
set_option maxHeartbeats 4000000 in
theorem sfW_X7_readSum_9 {h0 : Hp} {e : Nat} {S : Nat → Hp → Int32 → Option Hp} (hS : ∀ (n : Nat) (h : Hp) (x1 : Int32), 17179869184 * (19 + e) ≤ n → J h0 h → 0 ≤ x1.toInt → x1.toInt ≤ 6 → 7 - x1.toInt ≤ e - 1 → Ok (S n h x1) (fun q => J h0 q ∧ True)) : ∀ (n : Nat), (∀ (h : Hp) (l1 : Int32) (l2 : Int32) (l3 : Int32), J h0 h → 0 ≤ l1.toInt → l1.toInt ≤ 6 → 7 - l1.toInt ≤ e → (17179869184 * (19 + e) : Int) < n → (17179869184 * (19 + e) : Int) + (401 - l3.toInt) < n → Ok (W_X7_readSum S n 9 h l1 l2 l3) (fun q => J h0 q ∧ True)) := by
  intro n
  induction n with
  | zero => intro h l1 l2 l3 j i0 i1 i2 hB hM; exfalso; omega
  | succ n ih =>
    intro h l1 l2 l3 j i0 i1 i2 hB hM
    rw [u_X7_readSum]
    refine Ok.pos rfl ?_
    have f1 := lit_400
    have f2 := rgT (l3)
    refine Ok.lt (fun c3 => ?_) (fun c3 => ?_)
    · exact Ok.ret ⟨j, trivial⟩
    · have f4 := rgT (hi h 2 5)
      have f5 := lit_0
      refine Ok.eq (fun c6 => ?_) (fun c6 => ?_)
      · refine Ok.bind (sf_X7_kind (h0 := h0) n h  (by omega) j ) (fun q3 hq3 => ?_)
        obtain ⟨eq3, xq3⟩ := hq3
        rw [eq3]
        have f7 := rgT (q3.1)
        have f8 := lit_42
        refine Ok.eq (fun c9 => ?_) (fun c9 => ?_)
        · have f10 := cR 3 2 0 5 (by decide) j
          refine Ok.bind (sf_X7_take (h0 := h0) n h q3.1 (by omega) j ) (fun q6 hq6 => ?_)
          obtain ⟨jq6, xq6⟩ := hq6
          have f11 := rgT (l1)
          refine Ok.bind (sf_X7_readUnit (h0 := h0) hS n q6.2 l1 (by omega) jq6 (by omega) (by omega) (by omega)) (fun q8 hq8 => ?_)
          obtain ⟨jq8, xq8⟩ := hq8
          refine Ok.eq (fun c12 => ?_) (fun c12 => ?_)
          · refine Ok.bind (sf_X4_add (h0 := h0) n q8 5 (-12) (by omega) jq8 lw_5) (fun q13 hq13 => ?_)
            obtain ⟨jq13, xq13⟩ := hq13
            have f13 := lit_1
            first | have f14 := adT (l3) (1) (by omega) (by omega) | have f14 := adT (l3) (1)
            have f15 := rgT (l3 + 1)
            exact ih q13 l1 l2 (l3 + 1) jq13  (by omega) (by omega) (by omega) (by omega) (by omega)
          · refine Ok.bind (sf_X4_add (h0 := h0) n q8 5 (-13) (by omega) jq8 lw_5) (fun q11 hq11 => ?_)
            obtain ⟨jq11, xq11⟩ := hq11
            have f16 := lit_1
            first | have f17 := adT (l3) (1) (by omega) (by omega) | have f17 := adT (l3) (1)
            have f18 := rgT (l3 + 1)
            exact ih q11 l1 l2 (l3 + 1) jq11  (by omega) (by omega) (by omega) (by omega) (by omega)
        · have f19 := lit_47
          refine Ok.eq (fun c20 => ?_) (fun c20 => ?_)
          · have f21 := cR 3 2 0 5 (by decide) j
            refine Ok.bind (sf_X7_take (h0 := h0) n h q3.1 (by omega) j ) (fun q52 hq52 => ?_)
            obtain ⟨jq52, xq52⟩ := hq52
            have f22 := rgT (l1)
            refine Ok.bind (sf_X7_readUnit (h0 := h0) hS n q52.2 l1 (by omega) jq52 (by omega) (by omega) (by omega)) (fun q54 hq54 => ?_)
            obtain ⟨jq54, xq54⟩ := hq54
            refine Ok.eq (fun c23 => ?_) (fun c23 => ?_)
            · refine Ok.bind (sf_X4_add (h0 := h0) n q54 5 (-12) (by omega) jq54 lw_5) (fun q59 hq59 => ?_)
              obtain ⟨jq59, xq59⟩ := hq59
              have f24 := lit_1
              first | have f25 := adT (l3) (1) (by omega) (by omega) | have f25 := adT (l3) (1)
              have f26 := rgT (l3 + 1)
              exact ih q59 l1 l2 (l3 + 1) jq59  (by omega) (by omega) (by omega) (by omega) (by omega)
            · refine Ok.bind (sf_X4_add (h0 := h0) n q54 5 (-13) (by omega) jq54 lw_5) (fun q57 hq57 => ?_)
              obtain ⟨jq57, xq57⟩ := hq57
              have f27 := lit_1
              first | have f28 := adT (l3) (1) (by omega) (by omega) | have f28 := adT (l3) (1)
              have f29 := rgT (l3 + 1)
              exact ih q57 l1 l2 (l3 + 1) jq57  (by omega) (by omega) (by omega) (by omega) (by omega)
          · have f30 := rgT (l2)
            refine Ok.eq (fun c31 => ?_) (fun c31 => ?_)
            · have f32 := lit_43
              refine Ok.eq (fun c33 => ?_) (fun c33 => ?_)
              · have f34 := cR 3 2 0 5 (by decide) j
                refine Ok.bind (sf_X7_take (h0 := h0) n h q3.1 (by omega) j ) (fun q18 hq18 => ?_)
                obtain ⟨jq18, xq18⟩ := hq18
                have f35 := rgT (l1)
                refine Ok.bind (sf_X7_readUnit (h0 := h0) hS n q18.2 l1 (by omega) jq18 (by omega) (by omega) (by omega)) (fun q20 hq20 => ?_)
                obtain ⟨jq20, xq20⟩ := hq20
                have f36 := lit_1
                first | have f37 := adT (l3) (1) (by omega) (by omega) | have f37 := adT (l3) (1)
                have f38 := rgT (l3 + 1)
                exact ih q20 l1 q3.1 (l3 + 1) jq20  (by omega) (by omega) (by omega) (by omega) (by omega)
              · have f39 := lit_45
                refine Ok.eq (fun c40 => ?_) (fun c40 => ?_)
                · have f41 := cR 3 2 0 5 (by decide) j
                  refine Ok.bind (sf_X7_take (h0 := h0) n h q3.1 (by omega) j ) (fun q23 hq23 => ?_)
                  obtain ⟨jq23, xq23⟩ := hq23
                  have f42 := rgT (l1)
                  refine Ok.bind (sf_X7_readUnit (h0 := h0) hS n q23.2 l1 (by omega) jq23 (by omega) (by omega) (by omega)) (fun q25 hq25 => ?_)
                  obtain ⟨jq25, xq25⟩ := hq25
                  have f43 := lit_1
                  first | have f44 := adT (l3) (1) (by omega) (by omega) | have f44 := adT (l3) (1)
                  have f45 := rgT (l3 + 1)
                  exact ih q25 l1 q3.1 (l3 + 1) jq25  (by omega) (by omega) (by omega) (by omega) (by omega)
                · exact Ok.ret ⟨j, trivial⟩
            · have f46 := lit_43
              refine Ok.eq (fun c47 => ?_) (fun c47 => ?_)
              · refine Ok.bind (sf_X4_add (h0 := h0) n h 5 (-10) (by omega) j lw_5) (fun q40 hq40 => ?_)
                obtain ⟨jq40, xq40⟩ := hq40
                refine Ok.eq (fun c48 => ?_) (fun c48 => ?_)
                · have f49 := cR 3 2 0 5 (by decide) jq40
                  refine Ok.bind (sf_X7_take (h0 := h0) n q40 q3.1 (by omega) jq40 ) (fun q43 hq43 => ?_)
                  obtain ⟨jq43, xq43⟩ := hq43
                  have f50 := rgT (l1)
                  refine Ok.bind (sf_X7_readUnit (h0 := h0) hS n q43.2 l1 (by omega) jq43 (by omega) (by omega) (by omega)) (fun q45 hq45 => ?_)
                  obtain ⟨jq45, xq45⟩ := hq45
                  have f51 := lit_1
                  first | have f52 := adT (l3) (1) (by omega) (by omega) | have f52 := adT (l3) (1)
                  have f53 := rgT (l3 + 1)
                  exact ih q45 l1 q3.1 (l3 + 1) jq45  (by omega) (by omega) (by omega) (by omega) (by omega)
                · have f54 := lit_45
                  refine Ok.eq (fun c55 => ?_) (fun c55 => ?_)
                  · have f56 := cR 3 2 0 5 (by decide) jq40
                    refine Ok.bind (sf_X7_take (h0 := h0) n q40 q3.1 (by omega) jq40 ) (fun q48 hq48 => ?_)
                    obtain ⟨jq48, xq48⟩ := hq48
                    have f57 := rgT (l1)
                    refine Ok.bind (sf_X7_readUnit (h0 := h0) hS n q48.2 l1 (by omega) jq48 (by omega) (by omega) (by omega)) (fun q50 hq50 => ?_)
                    obtain ⟨jq50, xq50⟩ := hq50
                    have f58 := lit_1
                    first | have f59 := adT (l3) (1) (by omega) (by omega) | have f59 := adT (l3) (1)
                    have f60 := rgT (l3 + 1)
                    exact ih q50 l1 q3.1 (l3 + 1) jq50  (by omega) (by omega) (by omega) (by omega) (by omega)
                  · exact Ok.ret ⟨jq40, trivial⟩
              · refine Ok.bind (sf_X4_add (h0 := h0) n h 5 (-11) (by omega) j lw_5) (fun q28 hq28 => ?_)
                obtain ⟨jq28, xq28⟩ := hq28
                refine Ok.eq (fun c61 => ?_) (fun c61 => ?_)
                · have f62 := cR 3 2 0 5 (by decide) jq28
                  refine Ok.bind (sf_X7_take (h0 := h0) n q28 q3.1 (by omega) jq28 ) (fun q31 hq31 => ?_)
                  obtain ⟨jq31, xq31⟩ := hq31
                  have f63 := rgT (l1)
                  refine Ok.bind (sf_X7_readUnit (h0 := h0) hS n q31.2 l1 (by omega) jq31 (by omega) (by omega) (by omega)) (fun q33 hq33 => ?_)
                  obtain ⟨jq33, xq33⟩ := hq33
                  have f64 := lit_1
                  first | have f65 := adT (l3) (1) (by omega) (by omega) | have f65 := adT (l3) (1)
                  have f66 := rgT (l3 + 1)
                  exact ih q33 l1 q3.1 (l3 + 1) jq33  (by omega) (by omega) (by omega) (by omega) (by omega)
                · have f67 := lit_45
                  refine Ok.eq (fun c68 => ?_) (fun c68 => ?_)
                  · have f69 := cR 3 2 0 5 (by decide) jq28
                    refine Ok.bind (sf_X7_take (h0 := h0) n q28 q3.1 (by omega) jq28 ) (fun q36 hq36 => ?_)
                    obtain ⟨jq36, xq36⟩ := hq36
                    have f70 := rgT (l1)
                    refine Ok.bind (sf_X7_readUnit (h0 := h0) hS n q36.2 l1 (by omega) jq36 (by omega) (by omega) (by omega)) (fun q38 hq38 => ?_)
                    obtain ⟨jq38, xq38⟩ := hq38
                    have f71 := lit_1
                    first | have f72 := adT (l3) (1) (by omega) (by omega) | have f72 := adT (l3) (1)
                    have f73 := rgT (l3 + 1)
                    exact ih q38 l1 q3.1 (l3 + 1) jq38  (by omega) (by omega) (by omega) (by omega) (by omega)
                  · exact Ok.ret ⟨jq28, trivial⟩
      · exact Ok.ret ⟨j, trivial⟩
