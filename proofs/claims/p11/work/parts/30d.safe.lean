/-! the class comes to its end, 2 -/
set_option maxRecDepth 100000 in
set_option maxHeartbeats 4000000 in
theorem sfW_X9_behindDigits_2 {h0 : Hp} : ∀ (n : Nat), (∀ (h : Hp) (l1 : Int32) (l2 : Int32), J h0 h → (1 : Int) < n → (1 : Int) + (2001 - l2.toInt) < n → Ok (W_X9_behindDigits n 2 h l1 l2) (fun q => q.2 = h ∧ True)) := by
  intro n
  induction n with
  | zero => intro h l1 l2 j hB hM; exfalso; omega
  | succ n ih =>
    intro h l1 l2 j hB hM
    rw [u_X9_behindDigits]
    refine Ok.pos rfl ?_
    have f1 := cR 18 6 0 2000 (by decide) j
    have f2 := rgT (hi h 18 6)
    have f3 := rgT (l2)
    refine Ok.le (fun c4 => ?_) (fun c4 => ?_)
    · exact Ok.ret ⟨rfl, trivial⟩
    · refine Ok.bind (sf_X9_signAt (h0 := h0) n h l2 (by omega) j ) (fun q2 hq2 => ?_)
      obtain ⟨eq2, xq2⟩ := hq2
      rw [eq2]
      refine Ok.bind (sf_X9_isDigit (h0 := h0) n h q2.1 (by omega) j ) (fun q4 hq4 => ?_)
      obtain ⟨eq4, xq4⟩ := hq4
      rw [eq4]
      have f5 := rgT (q4.1)
      have f6 := lit_0
      refine Ok.eq (fun c7 => ?_) (fun c7 => ?_)
      · exact Ok.ret ⟨rfl, trivial⟩
      · have f8 := lit_1
        first | have f9 := adT (l2) (1) (by omega) (by omega) | have f9 := adT (l2) (1)
        have f10 := rgT (l2 + 1)
        exact ih h l1 (l2 + 1) j   (by omega) (by omega)
set_option maxRecDepth 100000 in
set_option maxHeartbeats 4000000 in
theorem sf_X9_behindDigits {h0 : Hp} (n : Nat) (h : Hp) (x1 : Int32) (hn : 17179869185 ≤ n) (j : J h0 h) : Ok (F_X9_behindDigits n h x1) (fun q => q.2 = h ∧ True) := by
  unfold F_X9_behindDigits
  have f1 := rgT (x1)
  exact sfW_X9_behindDigits_2 (h0 := h0) n h x1 x1 j   (by omega) (by omega)
set_option maxRecDepth 100000 in
set_option maxHeartbeats 4000000 in
theorem sfW_X9_numberOf_5 {h0 : Hp} : ∀ (n : Nat), (∀ (h : Hp) (l1 : Int32) (l2 : Int32) (l3 : Int32) (l4 : Int32), J h0 h → (1 : Int) < n → (1 : Int) + (l2.toInt - l4.toInt) < n → Ok (W_X9_numberOf n 5 h l1 l2 l3 l4) (fun q => q.2 = h ∧ True)) := by
  intro n
  induction n with
  | zero => intro h l1 l2 l3 l4 j hB hM; exfalso; omega
  | succ n ih =>
    intro h l1 l2 l3 l4 j hB hM
    rw [u_X9_numberOf]
    refine Ok.pos rfl ?_
    have f1 := rgT (l2)
    have f2 := rgT (l4)
    refine Ok.le (fun c3 => ?_) (fun c3 => ?_)
    · exact Ok.ret ⟨rfl, trivial⟩
    · refine Ok.bind (sf_X9_signAt (h0 := h0) n h l4 (by omega) j ) (fun q2 hq2 => ?_)
      obtain ⟨eq2, xq2⟩ := hq2
      rw [eq2]
      have f4 := lit_1
      first | have f5 := adT (l4) (1) (by omega) (by omega) | have f5 := adT (l4) (1)
      have f6 := rgT (l4 + 1)
      exact ih h l1 l2 ((10 * l3) + (q2.1 - 48)) (l4 + 1) j   (by omega) (by omega)
set_option maxRecDepth 100000 in
set_option maxHeartbeats 4000000 in
theorem sf_X9_numberOf {h0 : Hp} (n : Nat) (h : Hp) (x1 : Int32) (x2 : Int32) (hn : 17179869185 ≤ n) (j : J h0 h) : Ok (F_X9_numberOf n h x1 x2) (fun q => q.2 = h ∧ True) := by
  unfold F_X9_numberOf
  have f1 := rgT (x2)
  have f2 := rgT (x1)
  exact sfW_X9_numberOf_5 (h0 := h0) n h x1 x2 0 x1 j   (by omega) (by omega)
set_option maxRecDepth 100000 in
set_option maxHeartbeats 4000000 in
theorem sfW_X9_behindLetters_2 {h0 : Hp} : ∀ (n : Nat), (∀ (h : Hp) (l1 : Int32) (l2 : Int32), J h0 h → (1 : Int) < n → (1 : Int) + (2001 - l2.toInt) < n → Ok (W_X9_behindLetters n 2 h l1 l2) (fun q => q.2 = h ∧ True)) := by
  intro n
  induction n with
  | zero => intro h l1 l2 j hB hM; exfalso; omega
  | succ n ih =>
    intro h l1 l2 j hB hM
    rw [u_X9_behindLetters]
    refine Ok.pos rfl ?_
    have f1 := cR 18 6 0 2000 (by decide) j
    have f2 := rgT (hi h 18 6)
    have f3 := rgT (l2)
    refine Ok.le (fun c4 => ?_) (fun c4 => ?_)
    · exact Ok.ret ⟨rfl, trivial⟩
    · refine Ok.bind (sf_X9_signAt (h0 := h0) n h l2 (by omega) j ) (fun q2 hq2 => ?_)
      obtain ⟨eq2, xq2⟩ := hq2
      rw [eq2]
      refine Ok.bind (sf_X9_isLetter (h0 := h0) n h q2.1 (by omega) j ) (fun q4 hq4 => ?_)
      obtain ⟨eq4, xq4⟩ := hq4
      rw [eq4]
      have f5 := rgT (q4.1)
      have f6 := lit_0
      refine Ok.eq (fun c7 => ?_) (fun c7 => ?_)
      · exact Ok.ret ⟨rfl, trivial⟩
      · have f8 := lit_1
        first | have f9 := adT (l2) (1) (by omega) (by omega) | have f9 := adT (l2) (1)
        have f10 := rgT (l2 + 1)
        exact ih h l1 (l2 + 1) j   (by omega) (by omega)
set_option maxRecDepth 100000 in
set_option maxHeartbeats 4000000 in
theorem sf_X9_behindLetters {h0 : Hp} (n : Nat) (h : Hp) (x1 : Int32) (hn : 17179869185 ≤ n) (j : J h0 h) : Ok (F_X9_behindLetters n h x1) (fun q => q.2 = h ∧ True) := by
  unfold F_X9_behindLetters
  have f1 := rgT (x1)
  exact sfW_X9_behindLetters_2 (h0 := h0) n h x1 x1 j   (by omega) (by omega)
set_option maxRecDepth 100000 in
set_option maxHeartbeats 4000000 in
theorem sf_X9_withLetter {h0 : Hp} (n : Nat) (h : Hp) (x1 : Int64) (x2 : Int32) (hn : 1 ≤ n) (j : J h0 h) : Ok (F_X9_withLetter n h x1 x2) (fun q => q.2 = h ∧ True) := by
  unfold F_X9_withLetter
  exact Ok.ret ⟨rfl, trivial⟩
set_option maxRecDepth 100000 in
set_option maxHeartbeats 4000000 in
theorem sfW_X9_lettersOf_5 {h0 : Hp} : ∀ (n : Nat), (∀ (h : Hp) (l1 : Int32) (l2 : Int32) (l3 : Int64) (l5 : Int32), J h0 h → (1 : Int) < n → (1 : Int) + (l2.toInt - l5.toInt) < n → Ok (W_X9_lettersOf n 5 h l1 l2 l3 l5) (fun q => q.2 = h ∧ True)) := by
  intro n
  induction n with
  | zero => intro h l1 l2 l3 l5 j hB hM; exfalso; omega
  | succ n ih =>
    intro h l1 l2 l3 l5 j hB hM
    rw [u_X9_lettersOf]
    refine Ok.pos rfl ?_
    have f1 := rgT (l2)
    have f2 := rgT (l5)
    refine Ok.le (fun c3 => ?_) (fun c3 => ?_)
    · exact Ok.ret ⟨rfl, trivial⟩
    · refine Ok.bind (sf_X9_signAt (h0 := h0) n h l5 (by omega) j ) (fun q2 hq2 => ?_)
      obtain ⟨eq2, xq2⟩ := hq2
      rw [eq2]
      refine Ok.bind (sf_X9_withLetter (h0 := h0) n h l3 q2.1 (by omega) j ) (fun q4 hq4 => ?_)
      obtain ⟨eq4, xq4⟩ := hq4
      rw [eq4]
      have f4 := lit_1
      first | have f5 := adT (l5) (1) (by omega) (by omega) | have f5 := adT (l5) (1)
      have f6 := rgT (l5 + 1)
      exact ih h l1 l2 q4.1 (l5 + 1) j   (by omega) (by omega)
set_option maxRecDepth 100000 in
set_option maxHeartbeats 4000000 in
theorem sf_X9_lettersOf {h0 : Hp} (n : Nat) (h : Hp) (x1 : Int32) (x2 : Int32) (hn : 17179869185 ≤ n) (j : J h0 h) : Ok (F_X9_lettersOf n h x1 x2) (fun q => q.2 = h ∧ True) := by
  unfold F_X9_lettersOf
  have f1 := rgT (x2)
  have f2 := rgT (x1)
  exact sfW_X9_lettersOf_5 (h0 := h0) n h x1 x2 0 x1 j   (by omega) (by omega)
set_option maxRecDepth 100000 in
set_option maxHeartbeats 4000000 in
theorem sfW_X9_kindOfLetters_2 {h0 : Hp} : ∀ (n : Nat), (∀ (h : Hp) (l1 : Int64) (l3 : Int32), J h0 h → 0 ≤ l3.toInt → (1 : Int) < n → (1 : Int) + (22 - l3.toInt) < n → Ok (W_X9_kindOfLetters n 2 h l1 l3) (fun q => q.2 = h ∧ True)) := by
  intro n
  induction n with
  | zero => intro h l1 l3 j i0 hB hM; exfalso; omega
  | succ n ih =>
    intro h l1 l3 j i0 hB hM
    rw [u_X9_kindOfLetters]
    refine Ok.pos rfl ?_
    have f1 := lit_22
    have f2 := rgT (l3)
    refine Ok.le (fun c3 => ?_) (fun c3 => ?_)
    · exact Ok.ret ⟨rfl, trivial⟩
    · refine Ok.chk (ixT (by omega) (by omega)) (fun c4 => ?_)
      have f5 := rgT (lg_cmp (hl h 19 (Int32.toNatClampNeg l3)) l1)
      have f6 := lit_0
      refine Ok.eq (fun c7 => ?_) (fun c7 => ?_)
      · exact Ok.ret ⟨rfl, trivial⟩
      · have f8 := lit_1
        first | have f9 := adT (l3) (1) (by omega) (by omega) | have f9 := adT (l3) (1)
        have f10 := rgT (l3 + 1)
        exact ih h l1 (l3 + 1) j  (by omega) (by omega) (by omega)
set_option maxRecDepth 100000 in
set_option maxHeartbeats 4000000 in
theorem sf_X9_kindOfLetters {h0 : Hp} (n : Nat) (h : Hp) (x1 : Int64) (hn : 17179869185 ≤ n) (j : J h0 h) : Ok (F_X9_kindOfLetters n h x1) (fun q => q.2 = h ∧ True) := by
  unfold F_X9_kindOfLetters
  have f1 := lit_0
  exact sfW_X9_kindOfLetters_2 (h0 := h0) n h x1 0 j  (by omega) (by omega) (by omega)
set_option maxRecDepth 100000 in
set_option maxHeartbeats 4000000 in
theorem sf_X9_keep {h0 : Hp} (n : Nat) (h : Hp) (x1 : Int32) (hn : 17179869185 ≤ n) (j : J h0 h) : Ok (F_X9_keep n h x1) (fun q => J h0 q.2 ∧ True) := by
  unfold F_X9_keep
  refine Ok.bind (sf_X9_signAt (h0 := h0) n h x1 (by omega) j ) (fun q1 hq1 => ?_)
  obtain ⟨eq1, xq1⟩ := hq1
  rw [eq1]
  refine Ok.bind (sf_X9_isLetter (h0 := h0) n h q1.1 (by omega) j ) (fun q3 hq3 => ?_)
  obtain ⟨eq3, xq3⟩ := hq3
  rw [eq3]
  have f1 := rgT (q3.1)
  have f2 := lit_0
  refine Ok.eq (fun c3 => ?_) (fun c3 => ?_)
  · refine Ok.bind (sf_X9_isDigit (h0 := h0) n h q1.1 (by omega) j ) (fun q6 hq6 => ?_)
    obtain ⟨eq6, xq6⟩ := hq6
    rw [eq6]
    have f4 := rgT (q6.1)
    refine Ok.eq (fun c5 => ?_) (fun c5 => ?_)
    · refine Ok.bind (sf_X9_isSign (h0 := h0) n h q1.1 (by omega) j ) (fun q9 hq9 => ?_)
      obtain ⟨eq9, xq9⟩ := hq9
      rw [eq9]
      have f6 := rgT (q9.1)
      refine Ok.eq (fun c7 => ?_) (fun c7 => ?_)
      · have f8 := lit_401
        have f9 := cR 18 5 0 401 (by decide) j
        have f10 := rgT (hi h 18 5)
        refine Ok.le (fun c11 => ?_) (fun c11 => ?_)
        · exact Ok.ret ⟨j, trivial⟩
        · refine Ok.chk (ixT (by omega) (by omega)) (fun c12 => ?_)
          generalize eg13 : wrI h 20 (Int32.toNatClampNeg (hi h 18 5)) (33 : Int32).toInt8.toInt32 = g13
          have jg13 : J h0 g13 := JwI eg13 j (ncO_nc (by decide))
          have f14 := congrArg Int32.toInt (hiA eg13 18 5 (by decide))
          have f15 := rgT (hi g13 18 5)
          refine Ok.chk (ixT (by omega) (by omega)) (fun c16 => ?_)
          generalize eg17 : wrI g13 21 (Int32.toNatClampNeg (hi g13 18 5)) (x1 : Int32).toInt16.toInt32 = g17
          have jg17 : J h0 g17 := JwI eg17 jg13 (ncO_nc (by decide))
          have f18 := congrArg Int32.toInt (hiA eg17 18 5 (by decide))
          have f19 := rgT (hi g17 18 5)
          refine Ok.chk (ixT (by omega) (by omega)) (fun c20 => ?_)
          generalize eg21 : wrL g17 22 (Int32.toNatClampNeg (hi g17 18 5)) 0 = g21
          have jg21 : J h0 g21 := JwL eg21 jg17 (by decide)
          generalize eg22 : wrI g21 18 5 ((hi g21 18 5) + 1) = g22
          have f23 := congrArg Int32.toInt (hiLL eg21 18 5)
          have f24 := rgT (hi g21 18 5)
          have f25 := lit_1
          first | have f26 := adT (hi g21 18 5) (1) (by omega) (by omega) | have f26 := adT (hi g21 18 5) (1)
          have f27 := rgT ((hi g21 18 5) + 1)
          have jg22 : J h0 g22 := JwC 0 401 eg22 jg21 (by decide) ⟨by omega, by omega⟩ (by decide)
          exact Ok.ret ⟨jg22, trivial⟩
      · have f28 := lit_401
        have f29 := cR 18 5 0 401 (by decide) j
        have f30 := rgT (hi h 18 5)
        refine Ok.le (fun c31 => ?_) (fun c31 => ?_)
        · exact Ok.ret ⟨j, trivial⟩
        · refine Ok.chk (ixT (by omega) (by omega)) (fun c32 => ?_)
          generalize eg33 : wrI h 20 (Int32.toNatClampNeg (hi h 18 5)) (q1.1 : Int32).toInt8.toInt32 = g33
          have jg33 : J h0 g33 := JwI eg33 j (ncO_nc (by decide))
          have f34 := congrArg Int32.toInt (hiA eg33 18 5 (by decide))
          have f35 := rgT (hi g33 18 5)
          refine Ok.chk (ixT (by omega) (by omega)) (fun c36 => ?_)
          generalize eg37 : wrI g33 21 (Int32.toNatClampNeg (hi g33 18 5)) (x1 : Int32).toInt16.toInt32 = g37
          have jg37 : J h0 g37 := JwI eg37 jg33 (ncO_nc (by decide))
          have f38 := congrArg Int32.toInt (hiA eg37 18 5 (by decide))
          have f39 := rgT (hi g37 18 5)
          refine Ok.chk (ixT (by omega) (by omega)) (fun c40 => ?_)
          generalize eg41 : wrL g37 22 (Int32.toNatClampNeg (hi g37 18 5)) 0 = g41
          have jg41 : J h0 g41 := JwL eg41 jg37 (by decide)
          generalize eg42 : wrI g41 18 5 ((hi g41 18 5) + 1) = g42
          have f43 := congrArg Int32.toInt (hiLL eg41 18 5)
          have f44 := rgT (hi g41 18 5)
          have f45 := lit_1
          first | have f46 := adT (hi g41 18 5) (1) (by omega) (by omega) | have f46 := adT (hi g41 18 5) (1)
          have f47 := rgT ((hi g41 18 5) + 1)
          have jg42 : J h0 g42 := JwC 0 401 eg42 jg41 (by decide) ⟨by omega, by omega⟩ (by decide)
          exact Ok.ret ⟨jg42, trivial⟩
    · refine Ok.bind (sf_X9_behindDigits (h0 := h0) n h x1 (by omega) j ) (fun q20 hq20 => ?_)
      obtain ⟨eq20, xq20⟩ := hq20
      rw [eq20]
      refine Ok.bind (sf_X9_numberOf (h0 := h0) n h x1 q20.1 (by omega) j ) (fun q22 hq22 => ?_)
      obtain ⟨eq22, xq22⟩ := hq22
      rw [eq22]
      have f48 := rgT (q20.1)
      have f49 := rgT (x1)
      generalize ey50 : (q20.1 - x1 : Int32) = y50
      first | have f51 := sbG ey50 rfl rfl (by omega) (by omega) | have f51 := sbG ey50 rfl rfl
      have f52 := rgT (y50)
      have f53 := lit_4
      refine Ok.le (fun c54 => ?_) (fun c54 => ?_)
      · have f55 := lit_401
        have f56 := cR 18 5 0 401 (by decide) j
        have f57 := rgT (hi h 18 5)
        refine Ok.le (fun c58 => ?_) (fun c58 => ?_)
        · exact Ok.ret ⟨j, trivial⟩
        · refine Ok.chk (ixT (by omega) (by omega)) (fun c59 => ?_)
          generalize eg60 : wrI h 20 (Int32.toNatClampNeg (hi h 18 5)) (30 : Int32).toInt8.toInt32 = g60
          have jg60 : J h0 g60 := JwI eg60 j (ncO_nc (by decide))
          have f61 := congrArg Int32.toInt (hiA eg60 18 5 (by decide))
          have f62 := rgT (hi g60 18 5)
          refine Ok.chk (ixT (by omega) (by omega)) (fun c63 => ?_)
          generalize eg64 : wrI g60 21 (Int32.toNatClampNeg (hi g60 18 5)) (x1 : Int32).toInt16.toInt32 = g64
          have jg64 : J h0 g64 := JwI eg64 jg60 (ncO_nc (by decide))
          have f65 := congrArg Int32.toInt (hiA eg64 18 5 (by decide))
          have f66 := rgT (hi g64 18 5)
          refine Ok.chk (ixT (by omega) (by omega)) (fun c67 => ?_)
          generalize eg68 : wrL g64 22 (Int32.toNatClampNeg (hi g64 18 5)) (q22.1 : Int32).toInt64 = g68
          have jg68 : J h0 g68 := JwL eg68 jg64 (by decide)
          generalize eg69 : wrI g68 18 5 ((hi g68 18 5) + 1) = g69
          have f70 := congrArg Int32.toInt (hiLL eg68 18 5)
          have f71 := rgT (hi g68 18 5)
          have f72 := lit_1
          first | have f73 := adT (hi g68 18 5) (1) (by omega) (by omega) | have f73 := adT (hi g68 18 5) (1)
          have f74 := rgT ((hi g68 18 5) + 1)
          have jg69 : J h0 g69 := JwC 0 401 eg69 jg68 (by decide) ⟨by omega, by omega⟩ (by decide)
          exact Ok.ret ⟨jg69, trivial⟩
      · have f75 := lit_401
        have f76 := cR 18 5 0 401 (by decide) j
        have f77 := rgT (hi h 18 5)
        refine Ok.le (fun c78 => ?_) (fun c78 => ?_)
        · exact Ok.ret ⟨j, trivial⟩
        · refine Ok.chk (ixT (by omega) (by omega)) (fun c79 => ?_)
          generalize eg80 : wrI h 20 (Int32.toNatClampNeg (hi h 18 5)) (33 : Int32).toInt8.toInt32 = g80
          have jg80 : J h0 g80 := JwI eg80 j (ncO_nc (by decide))
          have f81 := congrArg Int32.toInt (hiA eg80 18 5 (by decide))
          have f82 := rgT (hi g80 18 5)
          refine Ok.chk (ixT (by omega) (by omega)) (fun c83 => ?_)
          generalize eg84 : wrI g80 21 (Int32.toNatClampNeg (hi g80 18 5)) (x1 : Int32).toInt16.toInt32 = g84
          have jg84 : J h0 g84 := JwI eg84 jg80 (ncO_nc (by decide))
          have f85 := congrArg Int32.toInt (hiA eg84 18 5 (by decide))
          have f86 := rgT (hi g84 18 5)
          refine Ok.chk (ixT (by omega) (by omega)) (fun c87 => ?_)
          generalize eg88 : wrL g84 22 (Int32.toNatClampNeg (hi g84 18 5)) (q22.1 : Int32).toInt64 = g88
          have jg88 : J h0 g88 := JwL eg88 jg84 (by decide)
          generalize eg89 : wrI g88 18 5 ((hi g88 18 5) + 1) = g89
          have f90 := congrArg Int32.toInt (hiLL eg88 18 5)
          have f91 := rgT (hi g88 18 5)
          have f92 := lit_1
          first | have f93 := adT (hi g88 18 5) (1) (by omega) (by omega) | have f93 := adT (hi g88 18 5) (1)
          have f94 := rgT ((hi g88 18 5) + 1)
          have jg89 : J h0 g89 := JwC 0 401 eg89 jg88 (by decide) ⟨by omega, by omega⟩ (by decide)
          exact Ok.ret ⟨jg89, trivial⟩
  · refine Ok.bind (sf_X9_behindLetters (h0 := h0) n h x1 (by omega) j ) (fun q33 hq33 => ?_)
    obtain ⟨eq33, xq33⟩ := hq33
    rw [eq33]
    refine Ok.bind (sf_X9_lettersOf (h0 := h0) n h x1 q33.1 (by omega) j ) (fun q35 hq35 => ?_)
    obtain ⟨eq35, xq35⟩ := hq35
    rw [eq35]
    have f95 := rgT (q33.1)
    have f96 := rgT (x1)
    generalize ey97 : (q33.1 - x1 : Int32) = y97
    first | have f98 := sbG ey97 rfl rfl (by omega) (by omega) | have f98 := sbG ey97 rfl rfl
    have f99 := rgT (y97)
    have f100 := lit_8
    refine Ok.le (fun c101 => ?_) (fun c101 => ?_)
    · refine Ok.bind (sf_X9_kindOfLetters (h0 := h0) n h q35.1 (by omega) j ) (fun q38 hq38 => ?_)
      obtain ⟨eq38, xq38⟩ := hq38
      rw [eq38]
      have f102 := lit_401
      have f103 := cR 18 5 0 401 (by decide) j
      have f104 := rgT (hi h 18 5)
      refine Ok.le (fun c105 => ?_) (fun c105 => ?_)
      · exact Ok.ret ⟨j, trivial⟩
      · refine Ok.chk (ixT (by omega) (by omega)) (fun c106 => ?_)
        generalize eg107 : wrI h 20 (Int32.toNatClampNeg (hi h 18 5)) (q38.1 : Int32).toInt8.toInt32 = g107
        have jg107 : J h0 g107 := JwI eg107 j (ncO_nc (by decide))
        have f108 := congrArg Int32.toInt (hiA eg107 18 5 (by decide))
        have f109 := rgT (hi g107 18 5)
        refine Ok.chk (ixT (by omega) (by omega)) (fun c110 => ?_)
        generalize eg111 : wrI g107 21 (Int32.toNatClampNeg (hi g107 18 5)) (x1 : Int32).toInt16.toInt32 = g111
        have jg111 : J h0 g111 := JwI eg111 jg107 (ncO_nc (by decide))
        have f112 := congrArg Int32.toInt (hiA eg111 18 5 (by decide))
        have f113 := rgT (hi g111 18 5)
        refine Ok.chk (ixT (by omega) (by omega)) (fun c114 => ?_)
        generalize eg115 : wrL g111 22 (Int32.toNatClampNeg (hi g111 18 5)) q35.1 = g115
        have jg115 : J h0 g115 := JwL eg115 jg111 (by decide)
        generalize eg116 : wrI g115 18 5 ((hi g115 18 5) + 1) = g116
        have f117 := congrArg Int32.toInt (hiLL eg115 18 5)
        have f118 := rgT (hi g115 18 5)
        have f119 := lit_1
        first | have f120 := adT (hi g115 18 5) (1) (by omega) (by omega) | have f120 := adT (hi g115 18 5) (1)
        have f121 := rgT ((hi g115 18 5) + 1)
        have jg116 : J h0 g116 := JwC 0 401 eg116 jg115 (by decide) ⟨by omega, by omega⟩ (by decide)
        exact Ok.ret ⟨jg116, trivial⟩
    · have f122 := lit_401
      have f123 := cR 18 5 0 401 (by decide) j
      have f124 := rgT (hi h 18 5)
      refine Ok.le (fun c125 => ?_) (fun c125 => ?_)
      · exact Ok.ret ⟨j, trivial⟩
      · refine Ok.chk (ixT (by omega) (by omega)) (fun c126 => ?_)
        generalize eg127 : wrI h 20 (Int32.toNatClampNeg (hi h 18 5)) (33 : Int32).toInt8.toInt32 = g127
        have jg127 : J h0 g127 := JwI eg127 j (ncO_nc (by decide))
        have f128 := congrArg Int32.toInt (hiA eg127 18 5 (by decide))
        have f129 := rgT (hi g127 18 5)
        refine Ok.chk (ixT (by omega) (by omega)) (fun c130 => ?_)
        generalize eg131 : wrI g127 21 (Int32.toNatClampNeg (hi g127 18 5)) (x1 : Int32).toInt16.toInt32 = g131
        have jg131 : J h0 g131 := JwI eg131 jg127 (ncO_nc (by decide))
        have f132 := congrArg Int32.toInt (hiA eg131 18 5 (by decide))
        have f133 := rgT (hi g131 18 5)
        refine Ok.chk (ixT (by omega) (by omega)) (fun c134 => ?_)
        generalize eg135 : wrL g131 22 (Int32.toNatClampNeg (hi g131 18 5)) q35.1 = g135
        have jg135 : J h0 g135 := JwL eg135 jg131 (by decide)
        generalize eg136 : wrI g135 18 5 ((hi g135 18 5) + 1) = g136
        have f137 := congrArg Int32.toInt (hiLL eg135 18 5)
        have f138 := rgT (hi g135 18 5)
        have f139 := lit_1
        first | have f140 := adT (hi g135 18 5) (1) (by omega) (by omega) | have f140 := adT (hi g135 18 5) (1)
        have f141 := rgT ((hi g135 18 5) + 1)
        have jg136 : J h0 g136 := JwC 0 401 eg136 jg135 (by decide) ⟨by omega, by omega⟩ (by decide)
        exact Ok.ret ⟨jg136, trivial⟩
