/-! the class comes to its end, 13 -/
set_option maxRecDepth 100000 in
set_option maxHeartbeats 4000000 in
theorem sf_X1_find {h0 : Hp} (n : Nat) (h : Hp) (x1 : Int32) (x2 : Int32) (hn : 1 ≤ n) (j : J h0 h) (p0 : (x1.toInt < 50 → x2.toInt < 50)) : Ok (F_X1_find n h x1 x2) (fun q => J h0 q ∧ True) := by
  unfold F_X1_find
  have f1 := rgT (x1)
  have f2 := lit_0
  refine Ok.lt (fun c3 => ?_) (fun c3 => ?_)
  · exact Ok.ret ⟨j, trivial⟩
  · have f4 := lit_50
    refine Ok.le (fun c5 => ?_) (fun c5 => ?_)
    · exact Ok.ret ⟨j, trivial⟩
    · refine Ok.chk (ixT (by omega) (by omega)) (fun c6 => ?_)
      have f7 := cR209 (Int32.toNatClampNeg x1) j
      have f8 := rgT (hi h 209 (Int32.toNatClampNeg x1))
      refine Ok.eqV rfl lit_m1 (fun c9 => ?_) (fun c9 => ?_)
      · have f10 := cR 207 4 0 50 (by decide) j
        have f11 := rgT (hi h 207 4)
        refine Ok.le (fun c12 => ?_) (fun c12 => ?_)
        · exact Ok.ret ⟨j, trivial⟩
        · refine Ok.pos c6 ?_
          generalize eg13 : wrI h 209 (Int32.toNatClampNeg x1) x2 = g13
          have f14 := rgT (x2)
          have jg13 : J h0 g13 := Jw209 eg13 j (by omega)
          have f15 := congrArg Int32.toInt (hiA eg13 207 4 (by decide))
          have f16 := rgT (hi g13 207 4)
          refine Ok.chk (ixT (by omega) (by omega)) (fun c17 => ?_)
          generalize eg18 : wrI g13 210 (Int32.toNatClampNeg (hi g13 207 4)) x1 = g18
          have jg18 : J h0 g18 := Jw210 eg18 jg13 ⟨by omega, by omega⟩
          generalize eg19 : wrI g18 207 4 ((hi g18 207 4) + 1) = g19
          have f20 := congrArg Int32.toInt (hiA eg18 207 4 (by decide))
          have f21 := rgT (hi g18 207 4)
          have f22 := lit_1
          first | have f23 := adT (hi g18 207 4) (1) (by omega) (by omega) | have f23 := adT (hi g18 207 4) (1)
          have f24 := rgT ((hi g18 207 4) + 1)
          have jg19 : J h0 g19 := JwC 0 50 eg19 jg18 (by decide) ⟨by omega, by omega⟩ (by decide)
          exact Ok.ret ⟨jg19, trivial⟩
      · exact Ok.ret ⟨j, trivial⟩
set_option maxRecDepth 100000 in
set_option maxHeartbeats 4000000 in
theorem sf_X1_leadOnFromEntry {h0 : Hp} (n : Nat) (h : Hp) (x1 : Int32) (hn : 1 ≤ n) (j : J h0 h) (p0 : 0 ≤ x1.toInt) (p1 : x1.toInt < 25) : Ok (F_X1_leadOnFromEntry n h x1) (fun q => J h0 q ∧ True) := by
  unfold F_X1_leadOnFromEntry
  have f1 := rgT (x1)
  refine Ok.chk (ixT (by omega) (by omega)) (fun c2 => ?_)
  have f3 := rgT (hi h 208 (Int32.toNatClampNeg x1))
  refine Ok.eqV rfl lit_m1 (fun c4 => ?_) (fun c4 => ?_)
  · have f5 := lit_2
    first | have f6 := mlT (2) (x1) (2) lit_2 (by omega) (by omega) | have f6 := mlT (2) (x1) (2) lit_2
    have f7 := lit_1
    first | have f8 := adT (2 * x1) (1) (by omega) (by omega) | have f8 := adT (2 * x1) (1)
    have f9 := rgT ((2 * x1) + 1)
    refine Ok.bind (sf_X1_find (h0 := h0) n h ((2 * x1) + 1) (2 * x1) (by omega) j (by omega)) (fun q5 hq5 => ?_)
    obtain ⟨jq5, xq5⟩ := hq5
    exact Ok.ret ⟨jq5, trivial⟩
  · have f10 := lit_2
    first | have f11 := mlT (2) (hi h 208 (Int32.toNatClampNeg x1)) (2) lit_2 (by omega) (by omega) | have f11 := mlT (2) (hi h 208 (Int32.toNatClampNeg x1)) (2) lit_2
    have f12 := lit_1
    first | have f13 := adT (2 * (hi h 208 (Int32.toNatClampNeg x1))) (1) (by omega) (by omega) | have f13 := adT (2 * (hi h 208 (Int32.toNatClampNeg x1))) (1)
    have f14 := rgT ((2 * (hi h 208 (Int32.toNatClampNeg x1))) + 1)
    first | have f15 := mlT (2) (x1) (2) lit_2 (by omega) (by omega) | have f15 := mlT (2) (x1) (2) lit_2
    refine Ok.bind (sf_X1_find (h0 := h0) n h ((2 * (hi h 208 (Int32.toNatClampNeg x1))) + 1) (2 * x1) (by omega) j (by omega)) (fun q3 hq3 => ?_)
    obtain ⟨jq3, xq3⟩ := hq3
    exact Ok.ret ⟨jq3, trivial⟩
set_option maxRecDepth 100000 in
set_option maxHeartbeats 4000000 in
theorem sfW_X1_leadOnFromExit_22 {h0 : Hp} : ∀ (n : Nat), (∀ (h : Hp) (l1 : Int32) (l2 : Int32) (l3 : Int32) (l4 : Int32), J h0 h → 0 ≤ l1.toInt → l1.toInt < 25 → 0 ≤ l4.toInt → (1 : Int) < n → (1 : Int) + (25 - l4.toInt) < n → Ok (W_X1_leadOnFromExit n 22 h l1 l2 l3 l4) (fun q => J h0 q ∧ True)) := by
  intro n
  induction n with
  | zero => intro h l1 l2 l3 l4 j i0 i1 i2 hB hM; exfalso; omega
  | succ n ih =>
    intro h l1 l2 l3 l4 j i0 i1 i2 hB hM
    rw [u_X1_leadOnFromExit]
    refine Ok.pos rfl ?_
    have f1 := lit_25
    have f2 := rgT (l4)
    refine Ok.le (fun c3 => ?_) (fun c3 => ?_)
    · have f4 := rgT (l1)
      refine Ok.chk (ixT (by omega) (by omega)) (fun c5 => ?_)
      have f6 := rgT (hi h 208 (Int32.toNatClampNeg l1))
      refine Ok.eqV rfl lit_m1 (fun c7 => ?_) (fun c7 => ?_)
      · exact Ok.ret ⟨j, trivial⟩
      · have f8 := lit_2
        first | have f9 := mlT (2) (l1) (2) lit_2 (by omega) (by omega) | have f9 := mlT (2) (l1) (2) lit_2
        have f10 := lit_1
        first | have f11 := adT (2 * l1) (1) (by omega) (by omega) | have f11 := adT (2 * l1) (1)
        have f12 := rgT ((2 * l1) + 1)
        refine Ok.bind (sf_X1_find (h0 := h0) n h (2 * l1) ((2 * l1) + 1) (by omega) j (by omega)) (fun q4 hq4 => ?_)
        obtain ⟨jq4, xq4⟩ := hq4
        exact Ok.ret ⟨jq4, trivial⟩
    · have f13 := and_rg ((((l3 : Int32).toUInt32 >>> ((l4 : Int32).toUInt32 &&& Int32.toUInt32 31)).toInt32) : Int32) (1 : Int32) 1 lit_1 (by decide)
      have f14 := lit_0
      refine Ok.eq (fun c15 => ?_) (fun c15 => ?_)
      · have f16 := rgT (l1)
        have f17 := lit_1
        first | have f18 := adT (l4) (1) (by omega) (by omega) | have f18 := adT (l4) (1)
        have f19 := rgT (l4 + 1)
        exact ih h l1 l2 l3 (l4 + 1) j  (by omega) (by omega) (by omega) (by omega) (by omega)
      · refine Ok.chk (ixT (by omega) (by omega)) (fun c20 => ?_)
        have f21 := rgT (hi h 208 (Int32.toNatClampNeg l4))
        have f22 := rgT (l1)
        refine Ok.eq (fun c23 => ?_) (fun c23 => ?_)
        · have f24 := lit_1
          first | have f25 := adT (l4) (1) (by omega) (by omega) | have f25 := adT (l4) (1)
          have f26 := rgT (l4 + 1)
          exact ih h l1 l2 l3 (l4 + 1) j  (by omega) (by omega) (by omega) (by omega) (by omega)
        · have f27 := lit_2
          first | have f28 := mlT (2) (l4) (2) lit_2 (by omega) (by omega) | have f28 := mlT (2) (l4) (2) lit_2
          first | have f29 := mlT (2) (l1) (2) lit_2 (by omega) (by omega) | have f29 := mlT (2) (l1) (2) lit_2
          have f30 := lit_1
          first | have f31 := adT (2 * l1) (1) (by omega) (by omega) | have f31 := adT (2 * l1) (1)
          have f32 := rgT ((2 * l1) + 1)
          refine Ok.bind (sf_X1_find (h0 := h0) n h (2 * l4) ((2 * l1) + 1) (by omega) j (by omega)) (fun q9 hq9 => ?_)
          obtain ⟨jq9, xq9⟩ := hq9
          first | have f33 := adT (l4) (1) (by omega) (by omega) | have f33 := adT (l4) (1)
          have f34 := rgT (l4 + 1)
          exact ih q9 l1 l2 l3 (l4 + 1) jq9  (by omega) (by omega) (by omega) (by omega) (by omega)
set_option maxRecDepth 100000 in
set_option maxHeartbeats 4000000 in
theorem sf_X1_leadOnFromExit {h0 : Hp} (n : Nat) (h : Hp) (x1 : Int32) (x2 : Int32) (hn : 17179869185 ≤ n) (j : J h0 h) (p0 : 0 ≤ x1.toInt) (p1 : x1.toInt < 25) : Ok (F_X1_leadOnFromExit n h x1 x2) (fun q => J h0 q ∧ True) := by
  unfold F_X1_leadOnFromExit
  refine Ok.bind (sf_X3_grown (h0 := h0) n h 24 ((1 : Int32) <<< ((x1 : Int32) &&& 31)) (by omega) j fd_24) (fun q11 hq11 => ?_)
  obtain ⟨eq11, xq11⟩ := hq11
  rw [eq11]
  have f1 := rgT (x1)
  have f2 := lit_0
  exact sfW_X1_leadOnFromExit_22 (h0 := h0) n h x1 x2 ((((q11.1 : Int32) &&& (x2 : Int32)) : Int32) &&& (((((1 : Int32) <<< ((x1 : Int32) &&& 31)) : Int32) ^^^ ((-1) : Int32)) : Int32)) 0 j  (by omega) (by omega) (by omega) (by omega) (by omega)
set_option maxRecDepth 100000 in
set_option maxHeartbeats 4000000 in
theorem sfW_X1_search_30 {h0 : Hp} : ∀ (n : Nat), (∀ (h : Hp) (l1 : Int32) (l2 : Int32) (l3 : Int32) (l4 : Int32), J h0 h → 0 ≤ l4.toInt → (17179869185 : Int) < n → (17179869185 : Int) + (50 - l4.toInt) < n → Ok (W_X1_search n 30 h l1 l2 l3 l4) (fun q => J h0 q.2 ∧ (q.1.toInt ≠ 0 → 0 ≤ (2 * l3 : Int32).toInt ∧ (2 * l3 : Int32).toInt < 50))) := by
  intro n
  induction n with
  | zero => intro h l1 l2 l3 l4 j i0 hB hM; exfalso; omega
  | succ n ih =>
    intro h l1 l2 l3 l4 j i0 hB hM
    rw [u_X1_search]
    refine Ok.pos rfl ?_
    have f1 := cR 207 4 0 50 (by decide) j
    have f2 := rgT (hi h 207 4)
    have f3 := rgT (l4)
    refine Ok.le (fun c4 => ?_) (fun c4 => ?_)
    · have f5 := lit_0
      refine Ok.ret ⟨j, ?_⟩
      show (((0) : Int32).toInt ≠ 0 → 0 ≤ (2 * l3 : Int32).toInt ∧ (2 * l3 : Int32).toInt < 50)
      omega
    · have f6 := lit_50
      refine Ok.le (fun c7 => ?_) (fun c7 => ?_)
      · have f8 := lit_0
        refine Ok.ret ⟨j, ?_⟩
        show (((0) : Int32).toInt ≠ 0 → 0 ≤ (2 * l3 : Int32).toInt ∧ (2 * l3 : Int32).toInt < 50)
        omega
      · refine Ok.chk (ixT (by omega) (by omega)) (fun c9 => ?_)
        refine Ok.pos c9 ?_
        have f10 := cR210 (Int32.toNatClampNeg l4) j
        have f11 := rgT (hi h 210 (Int32.toNatClampNeg l4))
        have f12 := lit_2
        have f13 := rgT (l3)
        first | have f14 := mlT (2) (l3) (2) lit_2 (by omega) (by omega) | have f14 := mlT (2) (l3) (2) lit_2
        refine Ok.eq (fun c15 => ?_) (fun c15 => ?_)
        · have f16 := lit_1
          refine Ok.ret ⟨j, ?_⟩
          show (((1) : Int32).toInt ≠ 0 → 0 ≤ (2 * l3 : Int32).toInt ∧ (2 * l3 : Int32).toInt < 50)
          omega
        · refine Ok.pos c9 ?_
          have f17 := and_rg ((hi h 210 (Int32.toNatClampNeg l4)) : Int32) (1 : Int32) 1 lit_1 (by decide)
          have f18 := lit_0
          refine Ok.eq (fun c19 => ?_) (fun c19 => ?_)
          · have f20 := shr1T ((hi h 210 (Int32.toNatClampNeg l4)) : Int32)
            refine Ok.bind (sf_X1_leadOnFromEntry (h0 := h0) n h (((hi h 210 (Int32.toNatClampNeg l4)) : Int32) >>> ((1 : Int32) &&& 31)) (by omega) j (by omega) (by omega)) (fun q10 hq10 => ?_)
            obtain ⟨jq10, xq10⟩ := hq10
            have f21 := lit_1
            first | have f22 := adT (l4) (1) (by omega) (by omega) | have f22 := adT (l4) (1)
            have f23 := rgT (l4 + 1)
            exact ih q10 l1 l2 l3 (l4 + 1) jq10  (by omega) (by omega) (by omega)
          · have f24 := shr1T ((hi h 210 (Int32.toNatClampNeg l4)) : Int32)
            have f25 := rgT ((l1 : Int32) &&& (((((1 : Int32) <<< ((l2 : Int32) &&& 31)) : Int32) ^^^ ((-1) : Int32)) : Int32))
            refine Ok.bind (sf_X1_leadOnFromExit (h0 := h0) n h (((hi h 210 (Int32.toNatClampNeg l4)) : Int32) >>> ((1 : Int32) &&& 31)) ((l1 : Int32) &&& (((((1 : Int32) <<< ((l2 : Int32) &&& 31)) : Int32) ^^^ ((-1) : Int32)) : Int32)) (by omega) j (by omega) (by omega)) (fun q8 hq8 => ?_)
            obtain ⟨jq8, xq8⟩ := hq8
            have f26 := lit_1
            first | have f27 := adT (l4) (1) (by omega) (by omega) | have f27 := adT (l4) (1)
            have f28 := rgT (l4 + 1)
            exact ih q8 l1 l2 l3 (l4 + 1) jq8  (by omega) (by omega) (by omega)
set_option maxRecDepth 100000 in
set_option maxHeartbeats 4000000 in
theorem sf_X1_search {h0 : Hp} (n : Nat) (h : Hp) (x1 : Int32) (x2 : Int32) (x3 : Int32) (hn : 34359738369 ≤ n) (j : J h0 h) : Ok (F_X1_search n h x1 x2 x3) (fun q => J h0 q.2 ∧ (q.1.toInt ≠ 0 → 0 ≤ (2 * x3 : Int32).toInt ∧ (2 * x3 : Int32).toInt < 50)) := by
  unfold F_X1_search
  have f1 := lit_m1
  refine Ok.bind (sf_J7_fill_50 (h0 := h0) n h 209 (-1) (by omega) j rfl (by omega)) (fun q12 hq12 => ?_)
  obtain ⟨jq12, xq12⟩ := hq12
  generalize eg2 : wrI q12 207 4 0 = g2
  have f3 := lit_0
  have jg2 : J h0 g2 := JwC 0 50 eg2 jq12 (by decide) ⟨by omega, by omega⟩ (by decide)
  have f4 := lit_2
  have f5 := rgT (x2)
  first | have f6 := mlT (2) (x2) (2) lit_2 (by omega) (by omega) | have f6 := mlT (2) (x2) (2) lit_2
  have f7 := lit_1
  first | have f8 := adT (2 * x2) (1) (by omega) (by omega) | have f8 := adT (2 * x2) (1)
  have f9 := rgT ((2 * x2) + 1)
  refine Ok.bind (sf_X1_find (h0 := h0) n g2 ((2 * x2) + 1) ((2 * x2) + 1) (by omega) jg2 (by omega)) (fun q14 hq14 => ?_)
  obtain ⟨jq14, xq14⟩ := hq14
  exact sfW_X1_search_30 (h0 := h0) n q14 x1 x2 x3 0 jq14  (by omega) (by omega) (by omega)
set_option maxRecDepth 100000 in
set_option maxHeartbeats 4000000 in
theorem sfW_X1_layWay_7 {h0 : Hp} : ∀ (n : Nat), (∀ (h : Hp) (l1 : Int32) (l2 : Int32) (l3 : Int32) (l4 : Int32), J h0 h → 0 ≤ l3.toInt → l3.toInt < 50 → (1 : Int) < n → (1 : Int) + (50 - l4.toInt) < n → Ok (W_X1_layWay n 7 h l1 l2 l3 l4) (fun q => J h0 q ∧ True)) := by
  intro n
  induction n with
  | zero => intro h l1 l2 l3 l4 j i0 i1 hB hM; exfalso; omega
  | succ n ih =>
    intro h l1 l2 l3 l4 j i0 i1 hB hM
    rw [u_X1_layWay]
    refine Ok.pos rfl ?_
    have f1 := lit_50
    have f2 := rgT (l4)
    refine Ok.le (fun c3 => ?_) (fun c3 => ?_)
    · exact Ok.ret ⟨j, trivial⟩
    · have f4 := rgT (l3)
      have f5 := lit_2
      have f6 := rgT (l1)
      first | have f7 := mlT (2) (l1) (2) lit_2 (by omega) (by omega) | have f7 := mlT (2) (l1) (2) lit_2
      have f8 := lit_1
      first | have f9 := adT (2 * l1) (1) (by omega) (by omega) | have f9 := adT (2 * l1) (1)
      have f10 := rgT ((2 * l1) + 1)
      refine Ok.eq (fun c11 => ?_) (fun c11 => ?_)
      · exact Ok.ret ⟨j, trivial⟩
      · refine Ok.chk (ixT (by omega) (by omega)) (fun c12 => ?_)
        have f13 := lit_0
        have f14 := cR209 (Int32.toNatClampNeg l3) j
        have f15 := rgT (hi h 209 (Int32.toNatClampNeg l3))
        refine Ok.le (fun c16 => ?_) (fun c16 => ?_)
        · have f17 := and_rg (l3 : Int32) (1 : Int32) 1 lit_1 (by decide)
          refine Ok.eq (fun c18 => ?_) (fun c18 => ?_)
          · have f19 := shr1T (l3 : Int32)
            have f20 := rgT (l2)
            refine Ok.eq (fun c21 => ?_) (fun c21 => ?_)
            · first | have f22 := adT (l4) (1) (by omega) (by omega) | have f22 := adT (l4) (1)
              have f23 := rgT (l4 + 1)
              exact ih h l1 l2 (hi h 209 (Int32.toNatClampNeg l3)) (l4 + 1) j  (by omega) (by omega) (by omega) (by omega)
            · have f24 := shr1T ((hi h 209 (Int32.toNatClampNeg l3)) : Int32)
              refine Ok.eq (fun c25 => ?_) (fun c25 => ?_)
              · refine Ok.chk (ixT (by omega) (by omega)) (fun c26 => ?_)
                generalize eg27 : wrI h 208 (Int32.toNatClampNeg ((l3 : Int32) >>> ((1 : Int32) &&& 31))) (-1) = g27
                have jg27 : J h0 g27 := JwI eg27 j (ncO_nc (by decide))
                first | have f28 := adT (l4) (1) (by omega) (by omega) | have f28 := adT (l4) (1)
                have f29 := rgT (l4 + 1)
                exact ih g27 l1 l2 (hi h 209 (Int32.toNatClampNeg l3)) (l4 + 1) jg27  (by omega) (by omega) (by omega) (by omega)
              · refine Ok.chk (ixT (by omega) (by omega)) (fun c30 => ?_)
                generalize eg31 : wrI h 208 (Int32.toNatClampNeg ((l3 : Int32) >>> ((1 : Int32) &&& 31))) (((hi h 209 (Int32.toNatClampNeg l3)) : Int32) >>> ((1 : Int32) &&& 31)) = g31
                have jg31 : J h0 g31 := JwI eg31 j (ncO_nc (by decide))
                first | have f32 := adT (l4) (1) (by omega) (by omega) | have f32 := adT (l4) (1)
                have f33 := rgT (l4 + 1)
                exact ih g31 l1 l2 (hi h 209 (Int32.toNatClampNeg l3)) (l4 + 1) jg31  (by omega) (by omega) (by omega) (by omega)
          · first | have f34 := adT (l4) (1) (by omega) (by omega) | have f34 := adT (l4) (1)
            have f35 := rgT (l4 + 1)
            exact ih h l1 l2 (hi h 209 (Int32.toNatClampNeg l3)) (l4 + 1) j  (by omega) (by omega) (by omega) (by omega)
        · exact Ok.ret ⟨j, trivial⟩
set_option maxRecDepth 100000 in
set_option maxHeartbeats 4000000 in
theorem sf_X1_layWay {h0 : Hp} (n : Nat) (h : Hp) (x1 : Int32) (x2 : Int32) (hn : 17179869185 ≤ n) (j : J h0 h) (p0 : 0 ≤ (2 * x2 : Int32).toInt) (p1 : (2 * x2 : Int32).toInt < 50) : Ok (F_X1_layWay n h x1 x2) (fun q => J h0 q ∧ True) := by
  unfold F_X1_layWay
  have f1 := lit_2
  have f2 := rgT (x2)
  first | have f3 := mlT (2) (x2) (2) lit_2 (by omega) (by omega) | have f3 := mlT (2) (x2) (2) lit_2
  have f4 := lit_0
  exact sfW_X1_layWay_7 (h0 := h0) n h x1 x2 (2 * x2) 0 j  (by omega) (by omega) (by omega) (by omega)
