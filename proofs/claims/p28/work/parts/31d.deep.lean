/-! the reference asked: what changes nothing but a law's pile -/
set_option maxRecDepth 100000 in
set_option maxHeartbeats 4000000 in
theorem sf_X12_in {h0 : Hp} (s0 : rS h0) (r0 : rwO (cnN h0) (hi h0 263)) (n : Nat) (h : Hp) (x1 : Int32) (x2 : Int32) (x3 : Int32) (hn : 1 ≤ n) (j : jD h0 h) : Ok (F_X12_in n h x1 x2 x3) (fun q => q.2 = h ∧ (0 ≤ q.1.toInt ∧ q.1.toInt ≤ 1 ∧ (q.1.toInt ≠ 0 → x2.toInt ≤ x1.toInt ∧ x1.toInt ≤ x3.toInt))) := by
  unfold F_X12_in
  have cn0 := cnR s0
  have gn0 := s0.2.2.2.1
  have f1 := rgT (x1)
  have f2 := rgT (x2)
  refine Ok.lt (fun c3 => ?_) (fun c3 => ?_)
  · have f4 := lit_0
    refine Ok.ret ⟨rfl, ?_⟩
    show (0 ≤ ((0) : Int32).toInt ∧ ((0) : Int32).toInt ≤ 1 ∧ (((0) : Int32).toInt ≠ 0 → x2.toInt ≤ x1.toInt ∧ x1.toInt ≤ x3.toInt))
    omega
  · have f5 := rgT (x3)
    refine Ok.lt (fun c6 => ?_) (fun c6 => ?_)
    · have f7 := lit_0
      refine Ok.ret ⟨rfl, ?_⟩
      show (0 ≤ ((0) : Int32).toInt ∧ ((0) : Int32).toInt ≤ 1 ∧ (((0) : Int32).toInt ≠ 0 → x2.toInt ≤ x1.toInt ∧ x1.toInt ≤ x3.toInt))
      omega
    · have f8 := lit_1
      refine Ok.ret ⟨rfl, ?_⟩
      show (0 ≤ ((1) : Int32).toInt ∧ ((1) : Int32).toInt ≤ 1 ∧ (((1) : Int32).toInt ≠ 0 → x2.toInt ≤ x1.toInt ∧ x1.toInt ≤ x3.toInt))
      omega
set_option maxRecDepth 100000 in
set_option maxHeartbeats 4000000 in
theorem sf_X12_within {h0 : Hp} (s0 : rS h0) (r0 : rwO (cnN h0) (hi h0 263)) (n : Nat) (h : Hp) (x1 : Int32) (x2 : Int32) (x3 : Int32) (hn : 1 ≤ n) (j : jD h0 h) : Ok (F_X12_within n h x1 x2 x3) (fun q => q.2 = h ∧ True) := by
  unfold F_X12_within
  have cn0 := cnR s0
  have gn0 := s0.2.2.2.1
  have f1 := rgT (x2)
  have f2 := rgT (x1)
  refine Ok.le (fun c3 => ?_) (fun c3 => ?_)
  · have f4 := rgT (x3)
    refine Ok.le (fun c5 => ?_) (fun c5 => ?_)
    · exact Ok.ret ⟨rfl, trivial⟩
    · exact Ok.ret ⟨rfl, trivial⟩
  · exact Ok.ret ⟨rfl, trivial⟩
set_option maxRecDepth 100000 in
set_option maxHeartbeats 4000000 in
theorem sfW_X12_bits_4 {h0 : Hp} (s0 : rS h0) (r0 : rwO (cnN h0) (hi h0 263)) : ∀ (n : Nat), (∀ (h : Hp) (l0 : Int32) (l1 : Int32) (l2 : Int32), jD h0 h → (1 : Int) < n → (1 : Int) + (25 - l2.toInt) < n → Ok (W_X12_bits n 4 h l0 l1 l2) (fun q => q.2 = h ∧ True)) := by
  have cn0 := cnR s0
  have gn0 := s0.2.2.2.1
  intro n
  induction n with
  | zero => intro h l0 l1 l2 j hB hM; exfalso; omega
  | succ n ih =>
    intro h l0 l1 l2 j hB hM
    rw [u_X12_bits]
    refine Ok.pos rfl ?_
    have f1 := lit_25
    have f2 := rgT (l2)
    refine Ok.le (fun c3 => ?_) (fun c3 => ?_)
    · exact Ok.ret ⟨rfl, trivial⟩
    · have f4 := lit_1
      first | have f5 := adT (l2) (1) (by omega) (by omega) | have f5 := adT (l2) (1)
      have f6 := rgT (l2 + 1)
      exact ih h l0 (l1 + ((((l0 : Int32) >>> ((l2 : Int32) &&& 31)) : Int32) &&& (1 : Int32))) (l2 + 1) j  (by omega) (by omega)
set_option maxRecDepth 100000 in
set_option maxHeartbeats 4000000 in
theorem sf_X12_bits {h0 : Hp} (s0 : rS h0) (r0 : rwO (cnN h0) (hi h0 263)) (n : Nat) (h : Hp) (x1 : Int32) (hn : 17179869185 ≤ n) (j : jD h0 h) : Ok (F_X12_bits n h x1) (fun q => q.2 = h ∧ True) := by
  unfold F_X12_bits
  have cn0 := cnR s0
  have gn0 := s0.2.2.2.1
  have f1 := lit_0
  exact sfW_X12_bits_4 (h0 := h0) s0 r0 n h x1 0 0 j  (by omega) (by omega)
set_option maxRecDepth 100000 in
set_option maxHeartbeats 4000000 in
theorem sf_X12_off {h0 : Hp} (s0 : rS h0) (r0 : rwO (cnN h0) (hi h0 263)) (n : Nat) (h : Hp) (x1 : Int32) (x2 : Int32) (hn : 1 ≤ n) (j : jD h0 h) : Ok (F_X12_off n h x1 x2) (fun q => q.2 = h ∧ True) := by
  unfold F_X12_off
  have cn0 := cnR s0
  have gn0 := s0.2.2.2.1
  have f1 := rgT (x2)
  have f2 := rgT (x1)
  refine Ok.le (fun c3 => ?_) (fun c3 => ?_)
  · exact Ok.ret ⟨rfl, trivial⟩
  · exact Ok.ret ⟨rfl, trivial⟩
set_option maxRecDepth 100000 in
set_option maxHeartbeats 4000000 in
theorem sf_X12_isCell {h0 : Hp} (s0 : rS h0) (r0 : rwO (cnN h0) (hi h0 263)) (n : Nat) (h : Hp) (x1 : Int32) (hn : 1 ≤ n) (j : jD h0 h) : Ok (F_X12_isCell n h x1) (fun q => q.2 = h ∧ (0 ≤ q.1.toInt ∧ q.1.toInt ≤ 1 ∧ (q.1.toInt ≠ 0 → 0 ≤ x1.toInt ∧ x1.toInt < cnN h0))) := by
  unfold F_X12_isCell
  have cn0 := cnR s0
  have gn0 := s0.2.2.2.1
  refine Ok.bind (sf_X12_cells (h0 := h0) s0 r0 n h  (by omega) j ) (fun q1 hq1 => ?_)
  obtain ⟨eq1, xq1⟩ := hq1
  rw [eq1]
  have f1 := rgT (x1)
  have f2 := lit_0
  have f3 := rgT (q1.1)
  have f4 := lit_1
  generalize ey5 : (q1.1 - 1 : Int32) = y5
  first | have f6 := sbG ey5 rfl rfl (by omega) (by omega) | have f6 := sbG ey5 rfl rfl
  have f7 := rgT (y5)
  refine Ok.bind (sf_X12_in (h0 := h0) s0 r0 n h x1 0 y5 (by omega) j ) (fun q3 hq3 => ?_)
  obtain ⟨eq3, xq3⟩ := hq3
  rw [eq3]
  have f8 := rgT (q3.1)
  refine Ok.bool ⟨by omega, by omega⟩ ?_
  refine Ok.ret ⟨rfl, ?_⟩
  show (0 ≤ ((q3.1) : Int32).toInt ∧ ((q3.1) : Int32).toInt ≤ 1 ∧ (((q3.1) : Int32).toInt ≠ 0 → 0 ≤ x1.toInt ∧ x1.toInt < cnN h0))
  omega
set_option maxRecDepth 100000 in
set_option maxHeartbeats 4000000 in
theorem sf_X12_isGoer {h0 : Hp} (s0 : rS h0) (r0 : rwO (cnN h0) (hi h0 263)) (n : Nat) (h : Hp) (x1 : Int32) (hn : 1 ≤ n) (j : jD h0 h) : Ok (F_X12_isGoer n h x1) (fun q => q.2 = h ∧ (0 ≤ q.1.toInt ∧ q.1.toInt ≤ 1 ∧ (q.1.toInt ≠ 0 → 0 ≤ x1.toInt ∧ x1.toInt < gnN h0))) := by
  unfold F_X12_isGoer
  have cn0 := cnR s0
  have gn0 := s0.2.2.2.1
  have f1 := liR s0 j.ks
  have f2 := rgT (hi h 226 18)
  refine Ok.chk (ixT (by omega) (by omega)) (fun c3 => ?_)
  have f4 := rgT (x1)
  have f5 := lit_0
  have f6 := gnR s0 j.ks
  have f7 := rgT (hi h 242 (Int32.toNatClampNeg (hi h 226 18)))
  have f8 := lit_1
  generalize ey9 : ((hi h 242 (Int32.toNatClampNeg (hi h 226 18))) - 1 : Int32) = y9
  first | have f10 := sbG ey9 rfl rfl (by omega) (by omega) | have f10 := sbG ey9 rfl rfl
  have f11 := rgT (y9)
  refine Ok.bind (sf_X12_in (h0 := h0) s0 r0 n h x1 0 y9 (by omega) j ) (fun q2 hq2 => ?_)
  obtain ⟨eq2, xq2⟩ := hq2
  rw [eq2]
  have f12 := rgT (q2.1)
  refine Ok.bool ⟨by omega, by omega⟩ ?_
  refine Ok.ret ⟨rfl, ?_⟩
  show (0 ≤ ((q2.1) : Int32).toInt ∧ ((q2.1) : Int32).toInt ≤ 1 ∧ (((q2.1) : Int32).toInt ≠ 0 → 0 ≤ x1.toInt ∧ x1.toInt < gnN h0))
  omega
set_option maxRecDepth 100000 in
set_option maxHeartbeats 4000000 in
theorem sf_X12_isLong {h0 : Hp} (s0 : rS h0) (r0 : rwO (cnN h0) (hi h0 263)) (n : Nat) (h : Hp) (x1 : Int32) (hn : 1 ≤ n) (j : jD h0 h) : Ok (F_X12_isLong n h x1) (fun q => q.2 = h ∧ (0 ≤ q.1.toInt ∧ q.1.toInt ≤ 1 ∧ (q.1.toInt ≠ 0 → 0 ≤ x1.toInt ∧ x1.toInt ≤ 100))) := by
  unfold F_X12_isLong
  have cn0 := cnR s0
  have gn0 := s0.2.2.2.1
  have f1 := rgT (x1)
  have f2 := lit_0
  have f3 := lit_100
  refine Ok.bind (sf_X12_in (h0 := h0) s0 r0 n h x1 0 100 (by omega) j ) (fun q1 hq1 => ?_)
  obtain ⟨eq1, xq1⟩ := hq1
  rw [eq1]
  have f4 := rgT (q1.1)
  refine Ok.bool ⟨by omega, by omega⟩ ?_
  refine Ok.ret ⟨rfl, ?_⟩
  show (0 ≤ ((q1.1) : Int32).toInt ∧ ((q1.1) : Int32).toInt ≤ 1 ∧ (((q1.1) : Int32).toInt ≠ 0 → 0 ≤ x1.toInt ∧ x1.toInt ≤ 100))
  omega
set_option maxRecDepth 100000 in
set_option maxHeartbeats 4000000 in
theorem sf_X12_isTime {h0 : Hp} (s0 : rS h0) (r0 : rwO (cnN h0) (hi h0 263)) (n : Nat) (h : Hp) (x1 : Int32) (hn : 1 ≤ n) (j : jD h0 h) : Ok (F_X12_isTime n h x1) (fun q => q.2 = h ∧ (0 ≤ q.1.toInt ∧ q.1.toInt ≤ 1 ∧ (q.1.toInt ≠ 0 → 0 ≤ x1.toInt ∧ x1.toInt ≤ 59))) := by
  unfold F_X12_isTime
  have cn0 := cnR s0
  have gn0 := s0.2.2.2.1
  have f1 := rgT (x1)
  have f2 := lit_0
  have f3 := lit_59
  refine Ok.bind (sf_X12_in (h0 := h0) s0 r0 n h x1 0 59 (by omega) j ) (fun q1 hq1 => ?_)
  obtain ⟨eq1, xq1⟩ := hq1
  rw [eq1]
  have f4 := rgT (q1.1)
  refine Ok.bool ⟨by omega, by omega⟩ ?_
  refine Ok.ret ⟨rfl, ?_⟩
  show (0 ≤ ((q1.1) : Int32).toInt ∧ ((q1.1) : Int32).toInt ≤ 1 ∧ (((q1.1) : Int32).toInt ≠ 0 → 0 ≤ x1.toInt ∧ x1.toInt ≤ 59))
  omega
set_option maxRecDepth 100000 in
set_option maxHeartbeats 4000000 in
theorem sf_X12_isRoped {h0 : Hp} (s0 : rS h0) (r0 : rwO (cnN h0) (hi h0 263)) (n : Nat) (h : Hp) (x1 : Int32) (hn : 1 ≤ n) (j : jD h0 h) : Ok (F_X12_isRoped n h x1) (fun q => q.2 = h ∧ True) := by
  unfold F_X12_isRoped
  have cn0 := cnR s0
  have gn0 := s0.2.2.2.1
  have f1 := and_rg ((((hi h 263 50) : Int32) >>> ((x1 : Int32) &&& 31)) : Int32) (1 : Int32) 1 lit_1 (by decide)
  have f2 := lit_1
  refine Ok.eq (fun c3 => ?_) (fun c3 => ?_)
  · exact Ok.ret ⟨rfl, trivial⟩
  · exact Ok.ret ⟨rfl, trivial⟩
set_option maxRecDepth 100000 in
set_option maxHeartbeats 4000000 in
theorem sf_X12_isLoud {h0 : Hp} (s0 : rS h0) (r0 : rwO (cnN h0) (hi h0 263)) (n : Nat) (h : Hp) (x1 : Int32) (x2 : Int32) (hn : 1 ≤ n) (j : jD h0 h) (p0 : 0 ≤ x1.toInt) (p1 : x1.toInt < 25) : Ok (F_X12_isLoud n h x1 x2) (fun q => q.2 = h ∧ True) := by
  unfold F_X12_isLoud
  have cn0 := cnR s0
  have gn0 := s0.2.2.2.1
  have f1 := rgT (x1)
  refine Ok.chk (ixT (by omega) (by omega)) (fun c2 => ?_)
  first | have f3 := rwR1 (j.rw r0) x1 (by omega) (by omega) | have f3 := rwR1 (j.rw r0) x1
  first | have f4 := rwR2 (j.rw r0) x1 (by omega) (by omega) | have f4 := rwR2 (j.rw r0) x1
  have f5 := rgT (hi h 263 (Int32.toNatClampNeg x1))
  have f6 := lit_0
  refine Ok.le (fun c7 => ?_) (fun c7 => ?_)
  · exact Ok.ret ⟨rfl, trivial⟩
  · refine Ok.pos c2 ?_
    refine Ok.div (by omega) ?_
    have f9 := lit_25
    first | have f10 := adT (25) (x1) (by omega) (by omega) | have f10 := adT (25) (x1)
    have f11 := rgT (25 + x1)
    refine Ok.chk (ixT (by omega) (by omega)) (fun c12 => ?_)
    have f13 := rgT (x2)
    first | have f14 := rmG (x2) (hi h 263 (Int32.toNatClampNeg x1)) (by omega) (by omega) | have f14 := rmG (x2) (hi h 263 (Int32.toNatClampNeg x1))
    have f15 := rgT (x2 - x2 / (hi h 263 (Int32.toNatClampNeg x1)) * (hi h 263 (Int32.toNatClampNeg x1)))
    first | have f16 := rwR1 (j.rw r0) (25 + x1) (by omega) (by omega) | have f16 := rwR1 (j.rw r0) (25 + x1)
    first | have f17 := rwR2 (j.rw r0) (25 + x1) (by omega) (by omega) | have f17 := rwR2 (j.rw r0) (25 + x1)
    have f18 := rgT (hi h 263 (Int32.toNatClampNeg (25 + x1)))
    refine Ok.eq (fun c19 => ?_) (fun c19 => ?_)
    · exact Ok.ret ⟨rfl, trivial⟩
    · exact Ok.ret ⟨rfl, trivial⟩
set_option maxRecDepth 100000 in
set_option maxHeartbeats 4000000 in
theorem sfW_X12_loudBits_4 {h0 : Hp} (s0 : rS h0) (r0 : rwO (cnN h0) (hi h0 263)) : ∀ (n : Nat), (∀ (h : Hp) (l1 : Int32) (l2 : Int32) (l3 : Int32), jD h0 h → 0 ≤ l3.toInt → (1 : Int) < n → (1 : Int) + (25 - l3.toInt) < n → Ok (W_X12_loudBits n 4 h l1 l2 l3) (fun q => q.2 = h ∧ True)) := by
  have cn0 := cnR s0
  have gn0 := s0.2.2.2.1
  intro n
  induction n with
  | zero => intro h l1 l2 l3 j i0 hB hM; exfalso; omega
  | succ n ih =>
    intro h l1 l2 l3 j i0 hB hM
    rw [u_X12_loudBits]
    refine Ok.pos rfl ?_
    refine Ok.bind (sf_X12_cells (h0 := h0) s0 r0 n h  (by omega) j ) (fun q1 hq1 => ?_)
    obtain ⟨eq1, xq1⟩ := hq1
    rw [eq1]
    have f1 := rgT (q1.1)
    have f2 := rgT (l3)
    refine Ok.le (fun c3 => ?_) (fun c3 => ?_)
    · exact Ok.ret ⟨rfl, trivial⟩
    · have f4 := rgT (l1)
      refine Ok.bind (sf_X12_isLoud (h0 := h0) s0 r0 n h l3 l1 (by omega) j (by omega) (by omega)) (fun q4 hq4 => ?_)
      obtain ⟨eq4, xq4⟩ := hq4
      rw [eq4]
      have f5 := rgT (q4.1)
      have f6 := lit_0
      refine Ok.eq (fun c7 => ?_) (fun c7 => ?_)
      · have f8 := lit_1
        first | have f9 := adT (l3) (1) (by omega) (by omega) | have f9 := adT (l3) (1)
        have f10 := rgT (l3 + 1)
        exact ih h l1 l2 (l3 + 1) j (by omega) (by omega) (by omega)
      · have f11 := lit_1
        first | have f12 := adT (l3) (1) (by omega) (by omega) | have f12 := adT (l3) (1)
        have f13 := rgT (l3 + 1)
        exact ih h l1 ((l2 : Int32) ||| (((1 : Int32) <<< ((l3 : Int32) &&& 31)) : Int32)) (l3 + 1) j (by omega) (by omega) (by omega)
set_option maxRecDepth 100000 in
set_option maxHeartbeats 4000000 in
theorem sf_X12_loudBits {h0 : Hp} (s0 : rS h0) (r0 : rwO (cnN h0) (hi h0 263)) (n : Nat) (h : Hp) (x1 : Int32) (hn : 17179869185 ≤ n) (j : jD h0 h) : Ok (F_X12_loudBits n h x1) (fun q => q.2 = h ∧ True) := by
  unfold F_X12_loudBits
  have cn0 := cnR s0
  have gn0 := s0.2.2.2.1
  have f1 := lit_0
  exact sfW_X12_loudBits_4 (h0 := h0) s0 r0 n h x1 0 0 j (by omega) (by omega) (by omega)
set_option maxRecDepth 100000 in
set_option maxHeartbeats 4000000 in
theorem sfW_X12_tuneBits_4 {h0 : Hp} (s0 : rS h0) (r0 : rwO (cnN h0) (hi h0 263)) : ∀ (n : Nat), (∀ (h : Hp) (l1 : Int32) (l2 : Int32), jD h0 h → 0 ≤ l2.toInt → (1 : Int) < n → (1 : Int) + (25 - l2.toInt) < n → Ok (W_X12_tuneBits n 4 h l1 l2) (fun q => q.2 = h ∧ True)) := by
  have cn0 := cnR s0
  have gn0 := s0.2.2.2.1
  intro n
  induction n with
  | zero => intro h l1 l2 j i0 hB hM; exfalso; omega
  | succ n ih =>
    intro h l1 l2 j i0 hB hM
    rw [u_X12_tuneBits]
    refine Ok.pos rfl ?_
    refine Ok.bind (sf_X12_cells (h0 := h0) s0 r0 n h  (by omega) j ) (fun q1 hq1 => ?_)
    obtain ⟨eq1, xq1⟩ := hq1
    rw [eq1]
    have f1 := rgT (q1.1)
    have f2 := rgT (l2)
    refine Ok.le (fun c3 => ?_) (fun c3 => ?_)
    · exact Ok.ret ⟨rfl, trivial⟩
    · refine Ok.chk (ixT (by omega) (by omega)) (fun c4 => ?_)
      first | have f5 := rwR1 (j.rw r0) l2 (by omega) (by omega) | have f5 := rwR1 (j.rw r0) l2
      first | have f6 := rwR2 (j.rw r0) l2 (by omega) (by omega) | have f6 := rwR2 (j.rw r0) l2
      have f7 := rgT (hi h 263 (Int32.toNatClampNeg l2))
      have f8 := lit_0
      refine Ok.le (fun c9 => ?_) (fun c9 => ?_)
      · have f10 := lit_1
        first | have f11 := adT (l2) (1) (by omega) (by omega) | have f11 := adT (l2) (1)
        have f12 := rgT (l2 + 1)
        exact ih h l1 (l2 + 1) j (by omega) (by omega) (by omega)
      · have f13 := lit_1
        first | have f14 := adT (l2) (1) (by omega) (by omega) | have f14 := adT (l2) (1)
        have f15 := rgT (l2 + 1)
        exact ih h ((l1 : Int32) ||| (((1 : Int32) <<< ((l2 : Int32) &&& 31)) : Int32)) (l2 + 1) j (by omega) (by omega) (by omega)
set_option maxRecDepth 100000 in
set_option maxHeartbeats 4000000 in
theorem sf_X12_tuneBits {h0 : Hp} (s0 : rS h0) (r0 : rwO (cnN h0) (hi h0 263)) (n : Nat) (h : Hp) (hn : 17179869185 ≤ n) (j : jD h0 h) : Ok (F_X12_tuneBits n h) (fun q => q.2 = h ∧ True) := by
  unfold F_X12_tuneBits
  have cn0 := cnR s0
  have gn0 := s0.2.2.2.1
  have f1 := lit_0
  exact sfW_X12_tuneBits_4 (h0 := h0) s0 r0 n h 0 0 j (by omega) (by omega) (by omega)
set_option maxRecDepth 100000 in
set_option maxHeartbeats 4000000 in
theorem sfW_X12_goerBits_4 {h0 : Hp} (s0 : rS h0) (r0 : rwO (cnN h0) (hi h0 263)) : ∀ (n : Nat), (∀ (h : Hp) (l1 : Int32) (l2 : Int32), jD h0 h → 0 ≤ l2.toInt → (1 : Int) < n → (1 : Int) + (25 - l2.toInt) < n → Ok (W_X12_goerBits n 4 h l1 l2) (fun q => q.2 = h ∧ True)) := by
  have cn0 := cnR s0
  have gn0 := s0.2.2.2.1
  intro n
  induction n with
  | zero => intro h l1 l2 j i0 hB hM; exfalso; omega
  | succ n ih =>
    intro h l1 l2 j i0 hB hM
    rw [u_X12_goerBits]
    refine Ok.pos rfl ?_
    have f1 := liR s0 j.ks
    have f2 := rgT (hi h 226 18)
    refine Ok.chk (ixT (by omega) (by omega)) (fun c3 => ?_)
    have f4 := gnR s0 j.ks
    have f5 := rgT (hi h 242 (Int32.toNatClampNeg (hi h 226 18)))
    have f6 := rgT (l2)
    refine Ok.le (fun c7 => ?_) (fun c7 => ?_)
    · exact Ok.ret ⟨rfl, trivial⟩
    · have f8 := lit_51
      first | have f9 := adT (51) (l2) (by omega) (by omega) | have f9 := adT (51) (l2)
      have f10 := rgT (51 + l2)
      refine Ok.chk (ixT (by omega) (by omega)) (fun c11 => ?_)
      have f12 := lit_1
      first | have f13 := adT (l2) (1) (by omega) (by omega) | have f13 := adT (l2) (1)
      have f14 := rgT (l2 + 1)
      exact ih h ((l1 : Int32) ||| (((1 : Int32) <<< (((hi h 263 (Int32.toNatClampNeg (51 + l2))) : Int32) &&& 31)) : Int32)) (l2 + 1) j (by omega) (by omega) (by omega)
set_option maxRecDepth 100000 in
set_option maxHeartbeats 4000000 in
theorem sf_X12_goerBits {h0 : Hp} (s0 : rS h0) (r0 : rwO (cnN h0) (hi h0 263)) (n : Nat) (h : Hp) (hn : 17179869185 ≤ n) (j : jD h0 h) : Ok (F_X12_goerBits n h) (fun q => q.2 = h ∧ True) := by
  unfold F_X12_goerBits
  have cn0 := cnR s0
  have gn0 := s0.2.2.2.1
  have f1 := lit_0
  exact sfW_X12_goerBits_4 (h0 := h0) s0 r0 n h 0 0 j (by omega) (by omega) (by omega)
set_option maxRecDepth 100000 in
set_option maxHeartbeats 4000000 in
theorem sfW_X12_whoAt_4 {h0 : Hp} (s0 : rS h0) (r0 : rwO (cnN h0) (hi h0 263)) : ∀ (n : Nat), (∀ (h : Hp) (l1 : Int32) (l2 : Int32) (l3 : Int32), jD h0 h → 0 ≤ l3.toInt → (1 : Int) < n → (1 : Int) + (25 - l3.toInt) < n → Ok (W_X12_whoAt n 4 h l1 l2 l3) (fun q => q.2 = h ∧ True)) := by
  have cn0 := cnR s0
  have gn0 := s0.2.2.2.1
  intro n
  induction n with
  | zero => intro h l1 l2 l3 j i0 hB hM; exfalso; omega
  | succ n ih =>
    intro h l1 l2 l3 j i0 hB hM
    rw [u_X12_whoAt]
    refine Ok.pos rfl ?_
    have f1 := liR s0 j.ks
    have f2 := rgT (hi h 226 18)
    refine Ok.chk (ixT (by omega) (by omega)) (fun c3 => ?_)
    have f4 := gnR s0 j.ks
    have f5 := rgT (hi h 242 (Int32.toNatClampNeg (hi h 226 18)))
    have f6 := rgT (l3)
    refine Ok.le (fun c7 => ?_) (fun c7 => ?_)
    · exact Ok.ret ⟨rfl, trivial⟩
    · have f8 := lit_51
      first | have f9 := adT (51) (l3) (by omega) (by omega) | have f9 := adT (51) (l3)
      have f10 := rgT (51 + l3)
      refine Ok.chk (ixT (by omega) (by omega)) (fun c11 => ?_)
      first | have f12 := rwR1 (j.rw r0) (51 + l3) (by omega) (by omega) | have f12 := rwR1 (j.rw r0) (51 + l3)
      first | have f13 := rwR2 (j.rw r0) (51 + l3) (by omega) (by omega) | have f13 := rwR2 (j.rw r0) (51 + l3)
      have f14 := rgT (hi h 263 (Int32.toNatClampNeg (51 + l3)))
      have f15 := rgT (l1)
      refine Ok.eq (fun c16 => ?_) (fun c16 => ?_)
      · have f17 := lit_1
        first | have f18 := adT (l3) (1) (by omega) (by omega) | have f18 := adT (l3) (1)
        have f19 := rgT (l3 + 1)
        exact ih h l1 ((l2 : Int32) ||| (((1 : Int32) <<< ((l3 : Int32) &&& 31)) : Int32)) (l3 + 1) j (by omega) (by omega) (by omega)
      · have f20 := lit_1
        first | have f21 := adT (l3) (1) (by omega) (by omega) | have f21 := adT (l3) (1)
        have f22 := rgT (l3 + 1)
        exact ih h l1 l2 (l3 + 1) j (by omega) (by omega) (by omega)
set_option maxRecDepth 100000 in
set_option maxHeartbeats 4000000 in
theorem sf_X12_whoAt {h0 : Hp} (s0 : rS h0) (r0 : rwO (cnN h0) (hi h0 263)) (n : Nat) (h : Hp) (x1 : Int32) (hn : 17179869185 ≤ n) (j : jD h0 h) : Ok (F_X12_whoAt n h x1) (fun q => q.2 = h ∧ True) := by
  unfold F_X12_whoAt
  have cn0 := cnR s0
  have gn0 := s0.2.2.2.1
  have f1 := lit_0
  exact sfW_X12_whoAt_4 (h0 := h0) s0 r0 n h x1 0 0 j (by omega) (by omega) (by omega)
set_option maxRecDepth 100000 in
set_option maxHeartbeats 4000000 in
theorem sf_X12_mixed {h0 : Hp} (s0 : rS h0) (r0 : rwO (cnN h0) (hi h0 263)) (n : Nat) (h : Hp) (x1 : Int32) (x2 : Int32) (hn : 1 ≤ n) (j : jD h0 h) : Ok (F_X12_mixed n h x1 x2) (fun q => q.2 = h ∧ True) := by
  unfold F_X12_mixed
  have cn0 := cnR s0
  have gn0 := s0.2.2.2.1
  exact Ok.ret ⟨rfl, trivial⟩
set_option maxRecDepth 100000 in
set_option maxHeartbeats 4000000 in
theorem sf_X12_lotOf {h0 : Hp} (s0 : rS h0) (r0 : rwO (cnN h0) (hi h0 263)) (n : Nat) (h : Hp) (x1 : Int32) (hn : 1 ≤ n) (j : jD h0 h) : Ok (F_X12_lotOf n h x1) (fun q => q.2 = h ∧ True) := by
  unfold F_X12_lotOf
  have cn0 := cnR s0
  have gn0 := s0.2.2.2.1
  refine Ok.bind (sf_X12_mixed (h0 := h0) s0 r0 n h (hi h 226 55) 197 (by omega) j ) (fun q1 hq1 => ?_)
  obtain ⟨eq1, xq1⟩ := hq1
  rw [eq1]
  refine Ok.bind (sf_X12_mixed (h0 := h0) s0 r0 n h q1.1 x1 (by omega) j ) (fun q3 hq3 => ?_)
  obtain ⟨eq3, xq3⟩ := hq3
  rw [eq3]
  exact Ok.ret ⟨rfl, trivial⟩
set_option maxRecDepth 100000 in
set_option maxHeartbeats 4000000 in
theorem sf_X12_freeBits {h0 : Hp} (s0 : rS h0) (r0 : rwO (cnN h0) (hi h0 263)) (n : Nat) (h : Hp) (hn : 1 ≤ n) (j : jD h0 h) : Ok (F_X12_freeBits n h) (fun q => q.2 = h ∧ True) := by
  unfold F_X12_freeBits
  have cn0 := cnR s0
  have gn0 := s0.2.2.2.1
  refine Ok.bind (sf_X12_cells (h0 := h0) s0 r0 n h  (by omega) j ) (fun q1 hq1 => ?_)
  obtain ⟨eq1, xq1⟩ := hq1
  rw [eq1]
  exact Ok.ret ⟨rfl, trivial⟩
set_option maxRecDepth 100000 in
set_option maxHeartbeats 4000000 in
theorem sf_X12_safeBits {h0 : Hp} (s0 : rS h0) (r0 : rwO (cnN h0) (hi h0 263)) (n : Nat) (h : Hp) (x1 : Int32) (hn : 17179869185 ≤ n) (j : jD h0 h) : Ok (F_X12_safeBits n h x1) (fun q => q.2 = h ∧ True) := by
  unfold F_X12_safeBits
  have cn0 := cnR s0
  have gn0 := s0.2.2.2.1
  refine Ok.bind (sf_X12_freeBits (h0 := h0) s0 r0 n h  (by omega) j ) (fun q1 hq1 => ?_)
  obtain ⟨eq1, xq1⟩ := hq1
  rw [eq1]
  refine Ok.bind (sf_X12_loudBits (h0 := h0) s0 r0 n h x1 (by omega) j ) (fun q3 hq3 => ?_)
  obtain ⟨eq3, xq3⟩ := hq3
  rw [eq3]
  exact Ok.ret ⟨rfl, trivial⟩
set_option maxRecDepth 100000 in
set_option maxHeartbeats 4000000 in
theorem sf_X12_isOther {h0 : Hp} (s0 : rS h0) (r0 : rwO (cnN h0) (hi h0 263)) (n : Nat) (h : Hp) (x1 : Int32) (x2 : Int32) (x3 : Int32) (hn : 1 ≤ n) (j : jD h0 h) : Ok (F_X12_isOther n h x1 x2 x3) (fun q => q.2 = h ∧ (q.1.toInt ≠ 0 → x1.toInt ≠ x2.toInt ∧ x1.toInt ≠ x3.toInt)) := by
  unfold F_X12_isOther
  have cn0 := cnR s0
  have gn0 := s0.2.2.2.1
  have f1 := rgT (x1)
  have f2 := rgT (x2)
  refine Ok.eq (fun c3 => ?_) (fun c3 => ?_)
  · have f4 := lit_0
    refine Ok.ret ⟨rfl, ?_⟩
    show (((0) : Int32).toInt ≠ 0 → x1.toInt ≠ x2.toInt ∧ x1.toInt ≠ x3.toInt)
    omega
  · have f5 := rgT (x3)
    refine Ok.eq (fun c6 => ?_) (fun c6 => ?_)
    · have f7 := lit_0
      refine Ok.ret ⟨rfl, ?_⟩
      show (((0) : Int32).toInt ≠ 0 → x1.toInt ≠ x2.toInt ∧ x1.toInt ≠ x3.toInt)
      omega
    · refine Ok.bind (sf_X12_isRoped (h0 := h0) s0 r0 n h x1 (by omega) j ) (fun q3 hq3 => ?_)
      obtain ⟨eq3, xq3⟩ := hq3
      rw [eq3]
      have f8 := rgT (q3.1)
      have f9 := lit_0
      refine Ok.eq (fun c10 => ?_) (fun c10 => ?_)
      · have f11 := lit_1
        refine Ok.ret ⟨rfl, ?_⟩
        show (((1) : Int32).toInt ≠ 0 → x1.toInt ≠ x2.toInt ∧ x1.toInt ≠ x3.toInt)
        omega
      · refine Ok.ret ⟨rfl, ?_⟩
        show (((0) : Int32).toInt ≠ 0 → x1.toInt ≠ x2.toInt ∧ x1.toInt ≠ x3.toInt)
        omega
set_option maxRecDepth 100000 in
set_option maxHeartbeats 4000000 in
theorem sf_X12_areFree {h0 : Hp} (s0 : rS h0) (r0 : rwO (cnN h0) (hi h0 263)) (n : Nat) (h : Hp) (x1 : Int32) (x2 : Int32) (hn : 1 ≤ n) (j : jD h0 h) : Ok (F_X12_areFree n h x1 x2) (fun q => q.2 = h ∧ (q.1.toInt ≠ 0 → 0 ≤ x1.toInt ∧ x1.toInt < cnN h0 ∧ 0 ≤ x2.toInt ∧ x2.toInt < cnN h0)) := by
  unfold F_X12_areFree
  have cn0 := cnR s0
  have gn0 := s0.2.2.2.1
  have f1 := rgT (x1)
  refine Ok.bind (sf_X12_isCell (h0 := h0) s0 r0 n h x1 (by omega) j ) (fun q1 hq1 => ?_)
  obtain ⟨eq1, xq1⟩ := hq1
  rw [eq1]
  have f2 := rgT (q1.1)
  have f3 := lit_0
  refine Ok.eq (fun c4 => ?_) (fun c4 => ?_)
  · refine Ok.ret ⟨rfl, ?_⟩
    show (((0) : Int32).toInt ≠ 0 → 0 ≤ x1.toInt ∧ x1.toInt < cnN h0 ∧ 0 ≤ x2.toInt ∧ x2.toInt < cnN h0)
    omega
  · have f5 := rgT (x2)
    refine Ok.bind (sf_X12_isCell (h0 := h0) s0 r0 n h x2 (by omega) j ) (fun q4 hq4 => ?_)
    obtain ⟨eq4, xq4⟩ := hq4
    rw [eq4]
    have f6 := rgT (q4.1)
    refine Ok.eq (fun c7 => ?_) (fun c7 => ?_)
    · refine Ok.ret ⟨rfl, ?_⟩
      show (((0) : Int32).toInt ≠ 0 → 0 ≤ x1.toInt ∧ x1.toInt < cnN h0 ∧ 0 ≤ x2.toInt ∧ x2.toInt < cnN h0)
      omega
    · have f8 := and_rg ((((hi h 262 50) : Int32) >>> ((x1 : Int32) &&& 31)) : Int32) (1 : Int32) 1 lit_1 (by decide)
      refine Ok.eq (fun c9 => ?_) (fun c9 => ?_)
      · have f10 := and_rg ((((hi h 262 50) : Int32) >>> ((x2 : Int32) &&& 31)) : Int32) (1 : Int32) 1 lit_1 (by decide)
        refine Ok.eq (fun c11 => ?_) (fun c11 => ?_)
        · have f12 := lit_1
          refine Ok.ret ⟨rfl, ?_⟩
          show (((1) : Int32).toInt ≠ 0 → 0 ≤ x1.toInt ∧ x1.toInt < cnN h0 ∧ 0 ≤ x2.toInt ∧ x2.toInt < cnN h0)
          omega
        · refine Ok.ret ⟨rfl, ?_⟩
          show (((0) : Int32).toInt ≠ 0 → 0 ≤ x1.toInt ∧ x1.toInt < cnN h0 ∧ 0 ≤ x2.toInt ∧ x2.toInt < cnN h0)
          omega
      · refine Ok.ret ⟨rfl, ?_⟩
        show (((0) : Int32).toInt ≠ 0 → 0 ≤ x1.toInt ∧ x1.toInt < cnN h0 ∧ 0 ≤ x2.toInt ∧ x2.toInt < cnN h0)
        omega
set_option maxRecDepth 100000 in
set_option maxHeartbeats 4000000 in
theorem sfW_X12_firstAt_2 {h0 : Hp} (s0 : rS h0) (r0 : rwO (cnN h0) (hi h0 263)) : ∀ (n : Nat), (∀ (h : Hp) (l1 : Int32) (l2 : Int32) (l3 : Int32), jD h0 h → l2.toInt ≤ 100 → 0 ≤ l3.toInt → (1 : Int) < n → (1 : Int) + (101 - l3.toInt) < n → Ok (W_X12_firstAt n 2 h l1 l2 l3) (fun q => q.2 = h ∧ q.1.toInt ≤ 100)) := by
  have cn0 := cnR s0
  have gn0 := s0.2.2.2.1
  intro n
  induction n with
  | zero => intro h l1 l2 l3 j i0 i1 hB hM; exfalso; omega
  | succ n ih =>
    intro h l1 l2 l3 j i0 i1 hB hM
    rw [u_X12_firstAt]
    refine Ok.pos rfl ?_
    have f1 := rgT (l2)
    have f2 := rgT (l3)
    refine Ok.lt (fun c3 => ?_) (fun c3 => ?_)
    · have f4 := lit_m2
      refine Ok.ret ⟨rfl, ?_⟩
      show ((-2) : Int32).toInt ≤ 100
      omega
    · refine Ok.chk (ixT (by omega) (by omega)) (fun c5 => ?_)
      have f6 := and_rg ((((hi h 267 (Int32.toNatClampNeg l3)) : Int32) >>> ((l1 : Int32) &&& 31)) : Int32) (1 : Int32) 1 lit_1 (by decide)
      have f7 := lit_1
      refine Ok.eq (fun c8 => ?_) (fun c8 => ?_)
      · refine Ok.ret ⟨rfl, ?_⟩
        show ((l3) : Int32).toInt ≤ 100
        omega
      · first | have f9 := adT (l3) (1) (by omega) (by omega) | have f9 := adT (l3) (1)
        have f10 := rgT (l3 + 1)
        exact ih h l1 l2 (l3 + 1) j (by omega) (by omega) (by omega) (by omega)
set_option maxRecDepth 100000 in
set_option maxHeartbeats 4000000 in
theorem sf_X12_firstAt {h0 : Hp} (s0 : rS h0) (r0 : rwO (cnN h0) (hi h0 263)) (n : Nat) (h : Hp) (x1 : Int32) (x2 : Int32) (hn : 17179869185 ≤ n) (j : jD h0 h) (p0 : x2.toInt ≤ 100) : Ok (F_X12_firstAt n h x1 x2) (fun q => q.2 = h ∧ q.1.toInt ≤ 100) := by
  unfold F_X12_firstAt
  have cn0 := cnR s0
  have gn0 := s0.2.2.2.1
  have f1 := rgT (x2)
  have f2 := lit_0
  exact sfW_X12_firstAt_2 (h0 := h0) s0 r0 n h x1 x2 0 j (by omega) (by omega) (by omega) (by omega)
set_option maxRecDepth 100000 in
set_option maxHeartbeats 4000000 in
theorem sfW_X12_tunesBy_7 {h0 : Hp} (s0 : rS h0) (r0 : rwO (cnN h0) (hi h0 263)) : ∀ (n : Nat), (∀ (h : Hp) (l1 : Int32) (l2 : Int32) (l3 : Int32) (l4 : Int32), jD h0 h → 0 ≤ l4.toInt → (1 : Int) < n → (1 : Int) + (25 - l4.toInt) < n → Ok (W_X12_tunesBy n 7 h l1 l2 l3 l4) (fun q => q.2 = h ∧ True)) := by
  have cn0 := cnR s0
  have gn0 := s0.2.2.2.1
  intro n
  induction n with
  | zero => intro h l1 l2 l3 l4 j i0 hB hM; exfalso; omega
  | succ n ih =>
    intro h l1 l2 l3 l4 j i0 hB hM
    rw [u_X12_tunesBy]
    refine Ok.pos rfl ?_
    refine Ok.bind (sf_X12_cells (h0 := h0) s0 r0 n h  (by omega) j ) (fun q1 hq1 => ?_)
    obtain ⟨eq1, xq1⟩ := hq1
    rw [eq1]
    have f1 := rgT (q1.1)
    have f2 := rgT (l4)
    refine Ok.le (fun c3 => ?_) (fun c3 => ?_)
    · exact Ok.ret ⟨rfl, trivial⟩
    · refine Ok.chk (ixT (by omega) (by omega)) (fun c4 => ?_)
      first | have f5 := nwR1 s0 j.ks l4 (by omega) (by omega) | have f5 := nwR1 s0 j.ks l4
      first | have f6 := nwR2 s0 j.ks l4 (by omega) (by omega) | have f6 := nwR2 s0 j.ks l4
      have f7 := rgT (hi h 262 (Int32.toNatClampNeg l4))
      have f8 := lit_0
      refine Ok.eq (fun c9 => ?_) (fun c9 => ?_)
      · have f10 := lit_1
        first | have f11 := adT (l4) (1) (by omega) (by omega) | have f11 := adT (l4) (1)
        have f12 := rgT (l4 + 1)
        exact ih h l1 l2 l3 (l4 + 1) j (by omega) (by omega) (by omega)
      · have f13 := lit_1
        first | have f14 := adT (l4) (1) (by omega) (by omega) | have f14 := adT (l4) (1)
        have f15 := rgT (l4 + 1)
        exact ih h l1 ((l2 : Int32) >>> ((1 : Int32) &&& 31)) ((l3 : Int32) ||| (((((l2 : Int32) &&& (1 : Int32)) : Int32) <<< ((l4 : Int32) &&& 31)) : Int32)) (l4 + 1) j (by omega) (by omega) (by omega)
set_option maxRecDepth 100000 in
set_option maxHeartbeats 4000000 in
theorem sf_X12_tunesBy {h0 : Hp} (s0 : rS h0) (r0 : rwO (cnN h0) (hi h0 263)) (n : Nat) (h : Hp) (x1 : Int32) (hn : 17179869185 ≤ n) (j : jD h0 h) : Ok (F_X12_tunesBy n h x1) (fun q => q.2 = h ∧ True) := by
  unfold F_X12_tunesBy
  have cn0 := cnR s0
  have gn0 := s0.2.2.2.1
  have f1 := lit_0
  exact sfW_X12_tunesBy_7 (h0 := h0) s0 r0 n h x1 x1 0 0 j (by omega) (by omega) (by omega)
set_option maxRecDepth 100000 in
set_option maxHeartbeats 4000000 in
theorem sfW_X12_doesFit_3 {h0 : Hp} (s0 : rS h0) (r0 : rwO (cnN h0) (hi h0 263)) : ∀ (n : Nat), (∀ (h : Hp) (l1 : Int32) (l2 : Int32) (l3 : Int32) (l4 : Int32), jD h0 h → 2 ≤ l1.toInt → l3.toInt ≤ 20 → 0 ≤ l4.toInt → (1 : Int) < n → (1 : Int) + (20 - l4.toInt) < n → Ok (W_X12_doesFit n 3 h l1 l2 l3 l4) (fun q => q.2 = h ∧ True)) := by
  have cn0 := cnR s0
  have gn0 := s0.2.2.2.1
  intro n
  induction n with
  | zero => intro h l1 l2 l3 l4 j i0 i1 i2 hB hM; exfalso; omega
  | succ n ih =>
    intro h l1 l2 l3 l4 j i0 i1 i2 hB hM
    rw [u_X12_doesFit]
    refine Ok.pos rfl ?_
    have f1 := rgT (l3)
    have f2 := rgT (l4)
    refine Ok.le (fun c3 => ?_) (fun c3 => ?_)
    · exact Ok.ret ⟨rfl, trivial⟩
    · refine Ok.chk (ixT (by omega) (by omega)) (fun c4 => ?_)
      have f5 := rgT (l1)
      have f6 := lit_0
      refine Ok.div (by omega) ?_
      have f8 := rgT (hi h 271 (Int32.toNatClampNeg l4))
      first | have f9 := rmG (hi h 271 (Int32.toNatClampNeg l4)) (l1) (by omega) (by omega) | have f9 := rmG (hi h 271 (Int32.toNatClampNeg l4)) (l1)
      have f10 := rgT ((hi h 271 (Int32.toNatClampNeg l4)) - (hi h 271 (Int32.toNatClampNeg l4)) / l1 * l1)
      have f11 := rgT (l2)
      refine Ok.eq (fun c12 => ?_) (fun c12 => ?_)
      · refine Ok.pos c4 ?_
        have f13 := lit_1
        have f14 := boT (hi h 272 (Int32.toNatClampNeg l4))
        refine Ok.eq (fun c15 => ?_) (fun c15 => ?_)
        · first | have f16 := adT (l4) (1) (by omega) (by omega) | have f16 := adT (l4) (1)
          have f17 := rgT (l4 + 1)
          exact ih h l1 l2 l3 (l4 + 1) j (by omega) (by omega) (by omega) (by omega) (by omega)
        · exact Ok.ret ⟨rfl, trivial⟩
      · refine Ok.pos c4 ?_
        have f18 := boT (hi h 272 (Int32.toNatClampNeg l4))
        refine Ok.eq (fun c19 => ?_) (fun c19 => ?_)
        · have f20 := lit_1
          first | have f21 := adT (l4) (1) (by omega) (by omega) | have f21 := adT (l4) (1)
          have f22 := rgT (l4 + 1)
          exact ih h l1 l2 l3 (l4 + 1) j (by omega) (by omega) (by omega) (by omega) (by omega)
        · exact Ok.ret ⟨rfl, trivial⟩
set_option maxRecDepth 100000 in
set_option maxHeartbeats 4000000 in
theorem sf_X12_doesFit {h0 : Hp} (s0 : rS h0) (r0 : rwO (cnN h0) (hi h0 263)) (n : Nat) (h : Hp) (x1 : Int32) (x2 : Int32) (x3 : Int32) (hn : 17179869185 ≤ n) (j : jD h0 h) (p0 : 2 ≤ x1.toInt) (p1 : x3.toInt ≤ 20) : Ok (F_X12_doesFit n h x1 x2 x3) (fun q => q.2 = h ∧ True) := by
  unfold F_X12_doesFit
  have cn0 := cnR s0
  have gn0 := s0.2.2.2.1
  have f1 := rgT (x1)
  have f2 := rgT (x3)
  have f3 := lit_0
  exact sfW_X12_doesFit_3 (h0 := h0) s0 r0 n h x1 x2 x3 0 j (by omega) (by omega) (by omega) (by omega) (by omega)
set_option maxRecDepth 100000 in
set_option maxHeartbeats 4000000 in
theorem sfG_X12_fitting_5 {h0 : Hp} (s0 : rS h0) (r0 : rwO (cnN h0) (hi h0 263)) : ∀ (n : Nat), (∀ (h : Hp) (l1 : Int32) (l2 : Int32) (l3 : Int32) (l4 : Int32) (l5 : Int32), jD h0 h → l1.toInt ≤ 20 → 2 ≤ l4.toInt → l4.toInt ≤ 7 → (17179869185 : Int) < n → (17179869185 : Int) + (100 * (8 - l4.toInt)) < n → Ok (W_X12_fitting n 5 h l1 l2 l3 l4 l5) (fun q => q.2 = h ∧ True)) ∧ (∀ (h : Hp) (l1 : Int32) (l2 : Int32) (l3 : Int32) (l4 : Int32) (l5 : Int32), jD h0 h → l1.toInt ≤ 20 → 2 ≤ l4.toInt → l4.toInt ≤ 6 → 0 ≤ l5.toInt → l5.toInt ≤ 7 → (17179869185 : Int) < n → (17179869185 : Int) + (100 * (8 - l4.toInt) - 20 - l5.toInt) < n → Ok (W_X12_fitting n 15 h l1 l2 l3 l4 l5) (fun q => q.2 = h ∧ True)) := by
  have cn0 := cnR s0
  have gn0 := s0.2.2.2.1
  intro n
  induction n with
  | zero => exact ⟨by intro h l1 l2 l3 l4 l5 j i0 i1 i2 hB hM; exfalso; omega, by intro h l1 l2 l3 l4 l5 j i0 i1 i2 i3 i4 hB hM; exfalso; omega⟩
  | succ n ih =>
    refine ⟨?_, ?_⟩
    · intro h l1 l2 l3 l4 l5 j i0 i1 i2 hB hM
      rw [u_X12_fitting]
      refine Ok.pos rfl ?_
      have f1 := lit_6
      have f2 := rgT (l4)
      refine Ok.lt (fun c3 => ?_) (fun c3 => ?_)
      · exact Ok.ret ⟨rfl, trivial⟩
      · have f4 := rgT (l1)
        have f5 := lit_0
        exact ih.2 h l1 l2 l3 l4 0 j (by omega) (by omega) (by omega) (by omega) (by omega) (by omega) (by omega)
    · intro h l1 l2 l3 l4 l5 j i0 i1 i2 i3 i4 hB hM
      rw [u_X12_fitting]
      refine Ok.neg (by decide) ?_
      refine Ok.pos rfl ?_
      have f1 := rgT (l4)
      have f2 := rgT (l5)
      refine Ok.le (fun c3 => ?_) (fun c3 => ?_)
      · have f4 := rgT (l1)
        have f5 := lit_1
        first | have f6 := adT (l4) (1) (by omega) (by omega) | have f6 := adT (l4) (1)
        have f7 := rgT (l4 + 1)
        exact ih.1 h l1 l2 l3 (l4 + 1) 0 j (by omega) (by omega) (by omega) (by omega) (by omega)
      · have f8 := rgT (l2)
        have f9 := lit_0
        refine Ok.lt (fun c10 => ?_) (fun c10 => ?_)
        · have f11 := rgT (l1)
          refine Ok.bind (sf_X12_doesFit (h0 := h0) s0 r0 n h l4 l5 l1 (by omega) j (by omega) (by omega)) (fun q4 hq4 => ?_)
          obtain ⟨eq4, xq4⟩ := hq4
          rw [eq4]
          have f12 := rgT (q4.1)
          refine Ok.eq (fun c13 => ?_) (fun c13 => ?_)
          · have f14 := lit_1
            first | have f15 := adT (l5) (1) (by omega) (by omega) | have f15 := adT (l5) (1)
            have f16 := rgT (l5 + 1)
            exact ih.2 h l1 l2 l3 l4 (l5 + 1) j (by omega) (by omega) (by omega) (by omega) (by omega) (by omega) (by omega)
          · have f17 := lit_1
            first | have f18 := adT (l5) (1) (by omega) (by omega) | have f18 := adT (l5) (1)
            have f19 := rgT (l5 + 1)
            exact ih.2 h l1 l2 (l3 + 1) l4 (l5 + 1) j (by omega) (by omega) (by omega) (by omega) (by omega) (by omega) (by omega)
        · refine Ok.div (by omega) ?_
          first | have f21 := rmG (l2) (l4) (by omega) (by omega) | have f21 := rmG (l2) (l4)
          have f22 := rgT (l2 - l2 / l4 * l4)
          refine Ok.eq (fun c23 => ?_) (fun c23 => ?_)
          · have f24 := rgT (l1)
            refine Ok.bind (sf_X12_doesFit (h0 := h0) s0 r0 n h l4 l5 l1 (by omega) j (by omega) (by omega)) (fun q9 hq9 => ?_)
            obtain ⟨eq9, xq9⟩ := hq9
            rw [eq9]
            have f25 := rgT (q9.1)
            refine Ok.eq (fun c26 => ?_) (fun c26 => ?_)
            · have f27 := lit_1
              first | have f28 := adT (l5) (1) (by omega) (by omega) | have f28 := adT (l5) (1)
              have f29 := rgT (l5 + 1)
              exact ih.2 h l1 l2 l3 l4 (l5 + 1) j (by omega) (by omega) (by omega) (by omega) (by omega) (by omega) (by omega)
            · have f30 := lit_1
              first | have f31 := adT (l5) (1) (by omega) (by omega) | have f31 := adT (l5) (1)
              have f32 := rgT (l5 + 1)
              exact ih.2 h l1 l2 (l3 + 1) l4 (l5 + 1) j (by omega) (by omega) (by omega) (by omega) (by omega) (by omega) (by omega)
          · have f33 := rgT (l1)
            have f34 := lit_1
            first | have f35 := adT (l5) (1) (by omega) (by omega) | have f35 := adT (l5) (1)
            have f36 := rgT (l5 + 1)
            exact ih.2 h l1 l2 l3 l4 (l5 + 1) j (by omega) (by omega) (by omega) (by omega) (by omega) (by omega) (by omega)
theorem sfW_X12_fitting_5 {h0 : Hp} (s0 : rS h0) (r0 : rwO (cnN h0) (hi h0 263)) (n : Nat) : ∀ (h : Hp) (l1 : Int32) (l2 : Int32) (l3 : Int32) (l4 : Int32) (l5 : Int32), jD h0 h → l1.toInt ≤ 20 → 2 ≤ l4.toInt → l4.toInt ≤ 7 → (17179869185 : Int) < n → (17179869185 : Int) + (100 * (8 - l4.toInt)) < n → Ok (W_X12_fitting n 5 h l1 l2 l3 l4 l5) (fun q => q.2 = h ∧ True) := (sfG_X12_fitting_5 (h0 := h0) s0 r0 n).1
theorem sfW_X12_fitting_15 {h0 : Hp} (s0 : rS h0) (r0 : rwO (cnN h0) (hi h0 263)) (n : Nat) : ∀ (h : Hp) (l1 : Int32) (l2 : Int32) (l3 : Int32) (l4 : Int32) (l5 : Int32), jD h0 h → l1.toInt ≤ 20 → 2 ≤ l4.toInt → l4.toInt ≤ 6 → 0 ≤ l5.toInt → l5.toInt ≤ 7 → (17179869185 : Int) < n → (17179869185 : Int) + (100 * (8 - l4.toInt) - 20 - l5.toInt) < n → Ok (W_X12_fitting n 15 h l1 l2 l3 l4 l5) (fun q => q.2 = h ∧ True) := (sfG_X12_fitting_5 (h0 := h0) s0 r0 n).2
set_option maxRecDepth 100000 in
set_option maxHeartbeats 4000000 in
theorem sf_X12_fitting {h0 : Hp} (s0 : rS h0) (r0 : rwO (cnN h0) (hi h0 263)) (n : Nat) (h : Hp) (x1 : Int32) (x2 : Int32) (hn : 51539607553 ≤ n) (j : jD h0 h) (p0 : x1.toInt ≤ 20) : Ok (F_X12_fitting n h x1 x2) (fun q => q.2 = h ∧ True) := by
  unfold F_X12_fitting
  have cn0 := cnR s0
  have gn0 := s0.2.2.2.1
  have f1 := rgT (x1)
  have f2 := lit_2
  exact sfW_X12_fitting_5 (h0 := h0) s0 r0 n h x1 x2 0 2 0 j (by omega) (by omega) (by omega) (by omega) (by omega)
set_option maxRecDepth 100000 in
set_option maxHeartbeats 4000000 in
theorem sfG_X12_firstFit_2 {h0 : Hp} (s0 : rS h0) (r0 : rwO (cnN h0) (hi h0 263)) : ∀ (n : Nat), (∀ (h : Hp) (l1 : Int32) (l2 : Int32) (l3 : Int32), jD h0 h → l1.toInt ≤ 20 → 2 ≤ l2.toInt → l2.toInt ≤ 7 → (17179869185 : Int) < n → (17179869185 : Int) + (100 * (8 - l2.toInt)) < n → Ok (W_X12_firstFit n 2 h l1 l2 l3) (fun q => q.2 = h ∧ True)) ∧ (∀ (h : Hp) (l1 : Int32) (l2 : Int32) (l3 : Int32), jD h0 h → l1.toInt ≤ 20 → 2 ≤ l2.toInt → l2.toInt ≤ 6 → 0 ≤ l3.toInt → l3.toInt ≤ 7 → (17179869185 : Int) < n → (17179869185 : Int) + (100 * (8 - l2.toInt) - 20 - l3.toInt) < n → Ok (W_X12_firstFit n 10 h l1 l2 l3) (fun q => q.2 = h ∧ True)) := by
  have cn0 := cnR s0
  have gn0 := s0.2.2.2.1
  intro n
  induction n with
  | zero => exact ⟨by intro h l1 l2 l3 j i0 i1 i2 hB hM; exfalso; omega, by intro h l1 l2 l3 j i0 i1 i2 i3 i4 hB hM; exfalso; omega⟩
  | succ n ih =>
    refine ⟨?_, ?_⟩
    · intro h l1 l2 l3 j i0 i1 i2 hB hM
      rw [u_X12_firstFit]
      refine Ok.pos rfl ?_
      have f1 := lit_6
      have f2 := rgT (l2)
      refine Ok.lt (fun c3 => ?_) (fun c3 => ?_)
      · exact Ok.ret ⟨rfl, trivial⟩
      · have f4 := rgT (l1)
        have f5 := lit_0
        exact ih.2 h l1 l2 0 j (by omega) (by omega) (by omega) (by omega) (by omega) (by omega) (by omega)
    · intro h l1 l2 l3 j i0 i1 i2 i3 i4 hB hM
      rw [u_X12_firstFit]
      refine Ok.neg (by decide) ?_
      refine Ok.pos rfl ?_
      have f1 := rgT (l2)
      have f2 := rgT (l3)
      refine Ok.le (fun c3 => ?_) (fun c3 => ?_)
      · have f4 := rgT (l1)
        have f5 := lit_1
        first | have f6 := adT (l2) (1) (by omega) (by omega) | have f6 := adT (l2) (1)
        have f7 := rgT (l2 + 1)
        exact ih.1 h l1 (l2 + 1) 0 j (by omega) (by omega) (by omega) (by omega) (by omega)
      · have f8 := rgT (l1)
        refine Ok.bind (sf_X12_doesFit (h0 := h0) s0 r0 n h l2 l3 l1 (by omega) j (by omega) (by omega)) (fun q3 hq3 => ?_)
        obtain ⟨eq3, xq3⟩ := hq3
        rw [eq3]
        have f9 := rgT (q3.1)
        have f10 := lit_0
        refine Ok.eq (fun c11 => ?_) (fun c11 => ?_)
        · have f12 := lit_1
          first | have f13 := adT (l3) (1) (by omega) (by omega) | have f13 := adT (l3) (1)
          have f14 := rgT (l3 + 1)
          exact ih.2 h l1 l2 (l3 + 1) j (by omega) (by omega) (by omega) (by omega) (by omega) (by omega) (by omega)
        · exact Ok.ret ⟨rfl, trivial⟩
theorem sfW_X12_firstFit_2 {h0 : Hp} (s0 : rS h0) (r0 : rwO (cnN h0) (hi h0 263)) (n : Nat) : ∀ (h : Hp) (l1 : Int32) (l2 : Int32) (l3 : Int32), jD h0 h → l1.toInt ≤ 20 → 2 ≤ l2.toInt → l2.toInt ≤ 7 → (17179869185 : Int) < n → (17179869185 : Int) + (100 * (8 - l2.toInt)) < n → Ok (W_X12_firstFit n 2 h l1 l2 l3) (fun q => q.2 = h ∧ True) := (sfG_X12_firstFit_2 (h0 := h0) s0 r0 n).1
theorem sfW_X12_firstFit_10 {h0 : Hp} (s0 : rS h0) (r0 : rwO (cnN h0) (hi h0 263)) (n : Nat) : ∀ (h : Hp) (l1 : Int32) (l2 : Int32) (l3 : Int32), jD h0 h → l1.toInt ≤ 20 → 2 ≤ l2.toInt → l2.toInt ≤ 6 → 0 ≤ l3.toInt → l3.toInt ≤ 7 → (17179869185 : Int) < n → (17179869185 : Int) + (100 * (8 - l2.toInt) - 20 - l3.toInt) < n → Ok (W_X12_firstFit n 10 h l1 l2 l3) (fun q => q.2 = h ∧ True) := (sfG_X12_firstFit_2 (h0 := h0) s0 r0 n).2
set_option maxRecDepth 100000 in
set_option maxHeartbeats 4000000 in
theorem sf_X12_firstFit {h0 : Hp} (s0 : rS h0) (r0 : rwO (cnN h0) (hi h0 263)) (n : Nat) (h : Hp) (x1 : Int32) (hn : 51539607553 ≤ n) (j : jD h0 h) (p0 : x1.toInt ≤ 20) : Ok (F_X12_firstFit n h x1) (fun q => q.2 = h ∧ True) := by
  unfold F_X12_firstFit
  have cn0 := cnR s0
  have gn0 := s0.2.2.2.1
  have f1 := rgT (x1)
  have f2 := lit_2
  exact sfW_X12_firstFit_2 (h0 := h0) s0 r0 n h x1 2 0 j (by omega) (by omega) (by omega) (by omega) (by omega)
set_option maxRecDepth 100000 in
set_option maxHeartbeats 4000000 in
theorem sf_X12_fits {h0 : Hp} (s0 : rS h0) (r0 : rwO (cnN h0) (hi h0 263)) (n : Nat) (h : Hp) (x1 : Int32) (x2 : Int32) (hn : 51539607553 ≤ n) (j : jD h0 h) : Ok (F_X12_fits n h x1 x2) (fun q => q.2 = h ∧ True) := by
  unfold F_X12_fits
  have cn0 := cnR s0
  have gn0 := s0.2.2.2.1
  have f1 := rgT (x1)
  have f2 := lit_0
  have f3 := toR s0 j.ks
  have f4 := rgT (hi h 226 65)
  refine Ok.bind (sf_X12_in (h0 := h0) s0 r0 n h x1 0 (hi h 226 65) (by omega) j ) (fun q1 hq1 => ?_)
  obtain ⟨eq1, xq1⟩ := hq1
  rw [eq1]
  have f5 := rgT (q1.1)
  refine Ok.eq (fun c6 => ?_) (fun c6 => ?_)
  · exact Ok.ret ⟨rfl, trivial⟩
  · have f7 := rgT (x2)
    have f8 := lit_1
    refine Ok.bind (sf_X12_in (h0 := h0) s0 r0 n h x2 0 1 (by omega) j ) (fun q4 hq4 => ?_)
    obtain ⟨eq4, xq4⟩ := hq4
    rw [eq4]
    have f9 := rgT (q4.1)
    refine Ok.eq (fun c10 => ?_) (fun c10 => ?_)
    · exact Ok.ret ⟨rfl, trivial⟩
    · refine Ok.eq (fun c11 => ?_) (fun c11 => ?_)
      · have f12 := lit_m1
        refine Ok.bind (sf_X12_fitting (h0 := h0) s0 r0 n h x1 (-1) (by omega) j (by omega)) (fun q10 hq10 => ?_)
        obtain ⟨eq10, xq10⟩ := hq10
        rw [eq10]
        exact Ok.ret ⟨rfl, trivial⟩
      · refine Ok.bind (sf_X12_firstFit (h0 := h0) s0 r0 n h x1 (by omega) j (by omega)) (fun q8 hq8 => ?_)
        obtain ⟨eq8, xq8⟩ := hq8
        rw [eq8]
        exact Ok.ret ⟨rfl, trivial⟩
set_option maxRecDepth 100000 in
set_option maxHeartbeats 4000000 in
theorem sfW_X12_listen_30 {h0 : Hp} (s0 : rS h0) (r0 : rwO (cnN h0) (hi h0 263)) : ∀ (n : Nat), (∀ (h : Hp) (l1 : Int32) (l2 : Int32) (l3 : Int32) (l4 : Int32) (l5 : Int32), jD h0 h → l1.toInt ≤ 20 → (51539607553 : Int) < n → (51539607553 : Int) + (60 - l5.toInt) < n → Ok (W_X12_listen n 30 h l1 l2 l3 l4 l5) (fun q => q.2 = h ∧ True)) := by
  have cn0 := cnR s0
  have gn0 := s0.2.2.2.1
  intro n
  induction n with
  | zero => intro h l1 l2 l3 l4 l5 j i0 hB hM; exfalso; omega
  | succ n ih =>
    intro h l1 l2 l3 l4 l5 j i0 hB hM
    rw [u_X12_listen]
    refine Ok.pos rfl ?_
    have f1 := lit_60
    have f2 := rgT (l5)
    refine Ok.le (fun c3 => ?_) (fun c3 => ?_)
    · exact Ok.ret ⟨rfl, trivial⟩
    · have f4 := rgT (l2)
      have f5 := lit_0
      refine Ok.le (fun c6 => ?_) (fun c6 => ?_)
      · exact Ok.ret ⟨rfl, trivial⟩
      · have f7 := rgT (l1)
        refine Ok.bind (sf_X12_fitting (h0 := h0) s0 r0 n h l1 l5 (by omega) j (by omega)) (fun q3 hq3 => ?_)
        obtain ⟨eq3, xq3⟩ := hq3
        rw [eq3]
        have f8 := rgT (q3.1)
        generalize ey9 : (l2 - q3.1 : Int32) = y9
        first | have f10 := sbG ey9 rfl rfl (by omega) (by omega) | have f10 := sbG ey9 rfl rfl
        have f11 := rgT (y9)
        refine Ok.le (fun c12 => ?_) (fun c12 => ?_)
        · have f13 := rgT (l3)
          refine Ok.lt (fun c14 => ?_) (fun c14 => ?_)
          · have f15 := lit_1
            first | have f16 := adT (l5) (1) (by omega) (by omega) | have f16 := adT (l5) (1)
            have f17 := rgT (l5 + 1)
            exact ih h l1 l2 l5 y9 (l5 + 1) j (by omega) (by omega) (by omega)
          · have f18 := rgT (l4)
            refine Ok.lt (fun c19 => ?_) (fun c19 => ?_)
            · have f20 := lit_1
              first | have f21 := adT (l5) (1) (by omega) (by omega) | have f21 := adT (l5) (1)
              have f22 := rgT (l5 + 1)
              exact ih h l1 l2 l5 y9 (l5 + 1) j (by omega) (by omega) (by omega)
            · have f23 := lit_1
              first | have f24 := adT (l5) (1) (by omega) (by omega) | have f24 := adT (l5) (1)
              have f25 := rgT (l5 + 1)
              exact ih h l1 l2 l3 l4 (l5 + 1) j (by omega) (by omega) (by omega)
        · have f26 := rgT (l3)
          refine Ok.lt (fun c27 => ?_) (fun c27 => ?_)
          · have f28 := lit_1
            first | have f29 := adT (l5) (1) (by omega) (by omega) | have f29 := adT (l5) (1)
            have f30 := rgT (l5 + 1)
            exact ih h l1 l2 l5 q3.1 (l5 + 1) j (by omega) (by omega) (by omega)
          · have f31 := rgT (l4)
            refine Ok.lt (fun c32 => ?_) (fun c32 => ?_)
            · have f33 := lit_1
              first | have f34 := adT (l5) (1) (by omega) (by omega) | have f34 := adT (l5) (1)
              have f35 := rgT (l5 + 1)
              exact ih h l1 l2 l5 q3.1 (l5 + 1) j (by omega) (by omega) (by omega)
            · have f36 := lit_1
              first | have f37 := adT (l5) (1) (by omega) (by omega) | have f37 := adT (l5) (1)
              have f38 := rgT (l5 + 1)
              exact ih h l1 l2 l3 l4 (l5 + 1) j (by omega) (by omega) (by omega)
set_option maxRecDepth 100000 in
set_option maxHeartbeats 4000000 in
theorem sf_X12_listen {h0 : Hp} (s0 : rS h0) (r0 : rwO (cnN h0) (hi h0 263)) (n : Nat) (h : Hp) (x1 : Int32) (hn : 68719476737 ≤ n) (j : jD h0 h) : Ok (F_X12_listen n h x1) (fun q => q.2 = h ∧ True) := by
  unfold F_X12_listen
  have cn0 := cnR s0
  have gn0 := s0.2.2.2.1
  have f1 := rgT (x1)
  have f2 := lit_0
  have f3 := toR s0 j.ks
  have f4 := rgT (hi h 226 65)
  refine Ok.bind (sf_X12_in (h0 := h0) s0 r0 n h x1 0 (hi h 226 65) (by omega) j ) (fun q10 hq10 => ?_)
  obtain ⟨eq10, xq10⟩ := hq10
  rw [eq10]
  have f5 := rgT (q10.1)
  refine Ok.eq (fun c6 => ?_) (fun c6 => ?_)
  · exact Ok.ret ⟨rfl, trivial⟩
  · have f7 := lit_m1
    refine Ok.bind (sf_X12_fitting (h0 := h0) s0 r0 n h x1 (-1) (by omega) j (by omega)) (fun q13 hq13 => ?_)
    obtain ⟨eq13, xq13⟩ := hq13
    rw [eq13]
    exact sfW_X12_listen_30 (h0 := h0) s0 r0 n h x1 q13.1 (-2) 0 0 j (by omega) (by omega) (by omega)
set_option maxRecDepth 100000 in
set_option maxHeartbeats 4000000 in
theorem sfW_X12_farOf_21 {h0 : Hp} (s0 : rS h0) (r0 : rwO (cnN h0) (hi h0 263)) : ∀ (n : Nat), (∀ (h : Hp) (l1 : Int32) (l2 : Int32) (l3 : Int32) (l4 : Int32) (l5 : Int32), jD h0 h → (300 : Int) < n → (300 : Int) + (25 - l5.toInt) < n → Ok (W_X12_farOf n 21 h l1 l2 l3 l4 l5) (fun q => q.2 = h ∧ True)) := by
  have cn0 := cnR s0
  have gn0 := s0.2.2.2.1
  intro n
  induction n with
  | zero => intro h l1 l2 l3 l4 l5 j hB hM; exfalso; omega
  | succ n ih =>
    intro h l1 l2 l3 l4 l5 j hB hM
    rw [u_X12_farOf]
    refine Ok.pos rfl ?_
    have f1 := lit_25
    have f2 := rgT (l5)
    refine Ok.le (fun c3 => ?_) (fun c3 => ?_)
    · exact Ok.ret ⟨rfl, trivial⟩
    · have f4 := and_rg (((l4 : Int32) >>> ((l2 : Int32) &&& 31)) : Int32) (1 : Int32) 1 lit_1 (by decide)
      have f5 := lit_1
      refine Ok.eq (fun c6 => ?_) (fun c6 => ?_)
      · exact Ok.ret ⟨rfl, trivial⟩
      · refine Ok.bind (sf_X12_nearBits (h0 := h0) s0 r0 n h l4 (by omega) j ) (fun q3 hq3 => ?_)
        obtain ⟨eq3, xq3⟩ := hq3
        rw [eq3]
        first | have f7 := adT (l5) (1) (by omega) (by omega) | have f7 := adT (l5) (1)
        have f8 := rgT (l5 + 1)
        exact ih h l1 l2 l3 ((q3.1 : Int32) &&& (l3 : Int32)) (l5 + 1) j  (by omega) (by omega)
set_option maxRecDepth 100000 in
set_option maxHeartbeats 4000000 in
theorem sf_X12_farOf {h0 : Hp} (s0 : rS h0) (r0 : rwO (cnN h0) (hi h0 263)) (n : Nat) (h : Hp) (x1 : Int32) (x2 : Int32) (hn : 17179869484 ≤ n) (j : jD h0 h) : Ok (F_X12_farOf n h x1 x2) (fun q => q.2 = h ∧ True) := by
  unfold F_X12_farOf
  have cn0 := cnR s0
  have gn0 := s0.2.2.2.1
  refine Ok.bind (sf_X12_freeBits (h0 := h0) s0 r0 n h  (by omega) j ) (fun q5 hq5 => ?_)
  obtain ⟨eq5, xq5⟩ := hq5
  rw [eq5]
  have f1 := lit_0
  exact sfW_X12_farOf_21 (h0 := h0) s0 r0 n h x1 x2 ((((q5.1 : Int32) ||| (((1 : Int32) <<< ((x1 : Int32) &&& 31)) : Int32)) : Int32) ||| (((1 : Int32) <<< ((x2 : Int32) &&& 31)) : Int32)) ((1 : Int32) <<< ((x1 : Int32) &&& 31)) 0 j  (by omega) (by omega)
set_option maxRecDepth 100000 in
set_option maxHeartbeats 4000000 in
theorem sfW_X12_farthestFrom_4 {h0 : Hp} (s0 : rS h0) (r0 : rwO (cnN h0) (hi h0 263)) : ∀ (n : Nat), (∀ (h : Hp) (l1 : Int32) (l2 : Int32) (l3 : Int32), jD h0 h → 0 ≤ l3.toInt → (17179869484 : Int) < n → (17179869484 : Int) + (25 - l3.toInt) < n → Ok (W_X12_farthestFrom n 4 h l1 l2 l3) (fun q => q.2 = h ∧ True)) := by
  have cn0 := cnR s0
  have gn0 := s0.2.2.2.1
  intro n
  induction n with
  | zero => intro h l1 l2 l3 j i0 hB hM; exfalso; omega
  | succ n ih =>
    intro h l1 l2 l3 j i0 hB hM
    rw [u_X12_farthestFrom]
    refine Ok.pos rfl ?_
    refine Ok.bind (sf_X12_cells (h0 := h0) s0 r0 n h  (by omega) j ) (fun q1 hq1 => ?_)
    obtain ⟨eq1, xq1⟩ := hq1
    rw [eq1]
    have f1 := rgT (q1.1)
    have f2 := rgT (l3)
    refine Ok.le (fun c3 => ?_) (fun c3 => ?_)
    · exact Ok.ret ⟨rfl, trivial⟩
    · refine Ok.bind (sf_X12_isRoped (h0 := h0) s0 r0 n h l3 (by omega) j ) (fun q4 hq4 => ?_)
      obtain ⟨eq4, xq4⟩ := hq4
      rw [eq4]
      have f4 := rgT (q4.1)
      have f5 := lit_0
      refine Ok.eq (fun c6 => ?_) (fun c6 => ?_)
      · refine Ok.bind (sf_X12_farOf (h0 := h0) s0 r0 n h l1 l3 (by omega) j ) (fun q7 hq7 => ?_)
        obtain ⟨eq7, xq7⟩ := hq7
        rw [eq7]
        have f7 := rgT (q7.1)
        refine Ok.le (fun c8 => ?_) (fun c8 => ?_)
        · have f9 := rgT (l2)
          refine Ok.le (fun c10 => ?_) (fun c10 => ?_)
          · have f11 := lit_1
            first | have f12 := adT (l3) (1) (by omega) (by omega) | have f12 := adT (l3) (1)
            have f13 := rgT (l3 + 1)
            exact ih h l1 l2 (l3 + 1) j (by omega) (by omega) (by omega)
          · have f14 := lit_1
            first | have f15 := adT (l3) (1) (by omega) (by omega) | have f15 := adT (l3) (1)
            have f16 := rgT (l3 + 1)
            exact ih h l1 q7.1 (l3 + 1) j (by omega) (by omega) (by omega)
        · exact Ok.ret ⟨rfl, trivial⟩
      · have f17 := lit_1
        first | have f18 := adT (l3) (1) (by omega) (by omega) | have f18 := adT (l3) (1)
        have f19 := rgT (l3 + 1)
        exact ih h l1 l2 (l3 + 1) j (by omega) (by omega) (by omega)
set_option maxRecDepth 100000 in
set_option maxHeartbeats 4000000 in
theorem sf_X12_farthestFrom {h0 : Hp} (s0 : rS h0) (r0 : rwO (cnN h0) (hi h0 263)) (n : Nat) (h : Hp) (x1 : Int32) (hn : 34359738668 ≤ n) (j : jD h0 h) : Ok (F_X12_farthestFrom n h x1) (fun q => q.2 = h ∧ True) := by
  unfold F_X12_farthestFrom
  have cn0 := cnR s0
  have gn0 := s0.2.2.2.1
  have f1 := lit_0
  exact sfW_X12_farthestFrom_4 (h0 := h0) s0 r0 n h x1 0 0 j (by omega) (by omega) (by omega)
set_option maxRecDepth 100000 in
set_option maxHeartbeats 4000000 in
theorem sf_X12_unlike {h0 : Hp} (s0 : rS h0) (r0 : rwO (cnN h0) (hi h0 263)) (n : Nat) (h : Hp) (x1 : Int32) (x2 : Int32) (hn : 1 ≤ n) (j : jD h0 h) (p0 : 0 ≤ x1.toInt) (p1 : x1.toInt < 5) (p2 : 0 ≤ x2.toInt) (p3 : x2.toInt < 5) : Ok (F_X12_unlike n h x1 x2) (fun q => q.2 = h ∧ True) := by
  unfold F_X12_unlike
  have cn0 := cnR s0
  have gn0 := s0.2.2.2.1
  have f1 := liR s0 j.ks
  have f2 := rgT (hi h 226 18)
  refine Ok.chk (ixT (by omega) (by omega)) (fun c3 => ?_)
  have f4 := lit_51
  have f5 := rgT (x1)
  first | have f6 := adT (51) (x1) (by omega) (by omega) | have f6 := adT (51) (x1)
  have f7 := rgT (51 + x1)
  refine Ok.chk (ixT (by omega) (by omega)) (fun c8 => ?_)
  have f9 := wdR s0 j.ks
  have f10 := rgT (hi h 235 (Int32.toNatClampNeg (hi h 226 18)))
  have f11 := lit_0
  refine Ok.div (by omega) ?_
  have f13 := rgT (x2)
  first | have f14 := adT (51) (x2) (by omega) (by omega) | have f14 := adT (51) (x2)
  have f15 := rgT (51 + x2)
  refine Ok.chk (ixT (by omega) (by omega)) (fun c16 => ?_)
  refine Ok.div (by omega) ?_
  refine Ok.bind (sf_X12_off (h0 := h0) s0 r0 n h ((hi h 262 (Int32.toNatClampNeg (51 + x1))) - (hi h 262 (Int32.toNatClampNeg (51 + x1))) / (hi h 235 (Int32.toNatClampNeg (hi h 226 18))) * (hi h 235 (Int32.toNatClampNeg (hi h 226 18)))) ((hi h 262 (Int32.toNatClampNeg (51 + x2))) - (hi h 262 (Int32.toNatClampNeg (51 + x2))) / (hi h 235 (Int32.toNatClampNeg (hi h 226 18))) * (hi h 235 (Int32.toNatClampNeg (hi h 226 18)))) (by omega) j ) (fun q6 hq6 => ?_)
  obtain ⟨eq6, xq6⟩ := hq6
  rw [eq6]
  refine Ok.pos c8 ?_
  refine Ok.div (by omega) ?_
  refine Ok.pos c16 ?_
  refine Ok.div (by omega) ?_
  refine Ok.bind (sf_X12_off (h0 := h0) s0 r0 n h ((hi h 262 (Int32.toNatClampNeg (51 + x1))) / (hi h 235 (Int32.toNatClampNeg (hi h 226 18)))) ((hi h 262 (Int32.toNatClampNeg (51 + x2))) / (hi h 235 (Int32.toNatClampNeg (hi h 226 18)))) (by omega) j ) (fun q12 hq12 => ?_)
  obtain ⟨eq12, xq12⟩ := hq12
  rw [eq12]
  exact Ok.ret ⟨rfl, trivial⟩
set_option maxRecDepth 100000 in
set_option maxHeartbeats 4000000 in
theorem sf_X12_pairedWith {h0 : Hp} (s0 : rS h0) (r0 : rwO (cnN h0) (hi h0 263)) (n : Nat) (h : Hp) (x1 : Int32) (x2 : Int32) (x3 : Int32) (hn : 1 ≤ n) (j : jD h0 h) (p0 : 0 ≤ x1.toInt) (p1 : x1.toInt < 5) (p2 : 0 ≤ x2.toInt) (p3 : x2.toInt < 5) (p4 : 0 ≤ x3.toInt) (p5 : x3.toInt < 32) : Ok (F_X12_pairedWith n h x1 x2 x3) (fun q => q.2 = h ∧ True) := by
  unfold F_X12_pairedWith
  have cn0 := cnR s0
  have gn0 := s0.2.2.2.1
  have f1 := rgT (x1)
  have f2 := rgT (x2)
  refine Ok.bind (sf_X12_unlike (h0 := h0) s0 r0 n h x1 x2 (by omega) j (by omega) (by omega) (by omega) (by omega)) (fun q1 hq1 => ?_)
  obtain ⟨eq1, xq1⟩ := hq1
  rw [eq1]
  have f3 := rgT (x3)
  first | have f4 := anL (x3 : Int32) (((((1 : Int32) <<< ((x2 : Int32) &&& 31)) : Int32) ^^^ ((-1) : Int32)) : Int32) (by omega) | have f4 := anL (x3 : Int32) (((((1 : Int32) <<< ((x2 : Int32) &&& 31)) : Int32) ^^^ ((-1) : Int32)) : Int32)
  have f5 := rgT ((x3 : Int32) &&& (((((1 : Int32) <<< ((x2 : Int32) &&& 31)) : Int32) ^^^ ((-1) : Int32)) : Int32))
  refine Ok.chk (ixT (by omega) (by omega)) (fun c6 => ?_)
  exact Ok.ret ⟨rfl, trivial⟩
set_option maxRecDepth 100000 in
set_option maxHeartbeats 4000000 in
theorem sf_X12_toldOf {h0 : Hp} (s0 : rS h0) (r0 : rwO (cnN h0) (hi h0 263)) (n : Nat) (h : Hp) (x1 : Int32) (x2 : Int32) (x3 : Int32) (x4 : Int32) (x5 : Int32) (hn : 17179869185 ≤ n) (j : jD h0 h) (p0 : 0 ≤ x1.toInt) (p1 : x1.toInt < cnN h0) (p2 : 0 ≤ x4.toInt) (p3 : x4.toInt < 4) : Ok (F_X12_toldOf n h x1 x2 x3 x4 x5) (fun q => jD h0 q.2 ∧ True) := by
  unfold F_X12_toldOf
  have cn0 := cnR s0
  have gn0 := s0.2.2.2.1
  have f1 := liR s0 j.ks
  have f2 := rgT (hi h 226 18)
  refine Ok.chk (ixT (by omega) (by omega)) (fun c3 => ?_)
  have f4 := wdR s0 j.ks
  have f5 := rgT (hi h 235 (Int32.toNatClampNeg (hi h 226 18)))
  have f6 := lit_0
  refine Ok.div (by omega) ?_
  generalize eg8 : wrI h 260 0 (x1 - x1 / (hi h 235 (Int32.toNatClampNeg (hi h 226 18))) * (hi h 235 (Int32.toNatClampNeg (hi h 226 18)))) = g8
  have jg8 : jD h0 g8 := JDw eg8 j rfl
  have f9 := liR s0 jg8.ks
  have f10 := rgT (hi g8 226 18)
  refine Ok.chk (ixT (by omega) (by omega)) (fun c11 => ?_)
  have f12 := wdR s0 jg8.ks
  have f13 := rgT (hi g8 235 (Int32.toNatClampNeg (hi g8 226 18)))
  refine Ok.div (by omega) ?_
  have f15 := rgT (x1)
  refine Ok.chk (ixT (by omega) (by omega)) (fun c16 => ?_)
  generalize eg17 : wrI g8 260 1 (x1 / (hi g8 235 (Int32.toNatClampNeg (hi g8 226 18)))) = g17
  have jg17 : jD h0 g17 := JDw eg17 jg8 rfl
  generalize eg18 : wrI g17 260 2 (hi g17 263 61) = g18
  have jg18 : jD h0 g18 := JDw eg18 jg17 rfl
  generalize eg19 : wrI g18 260 3 (hi g18 263 (Int32.toNatClampNeg x1)) = g19
  have jg19 : jD h0 g19 := JDw eg19 jg18 rfl
  generalize eg20 : wrI g19 260 4 x2 = g20
  have jg20 : jD h0 g20 := JDw eg20 jg19 rfl
  generalize eg21 : wrI g20 260 5 x3 = g21
  have jg21 : jD h0 g21 := JDw eg21 jg20 rfl
  have f22 := liR s0 jg21.ks
  have f23 := rgT (hi g21 226 18)
  refine Ok.chk (ixT (by omega) (by omega)) (fun c24 => ?_)
  generalize eg25 : wrI g21 260 6 (hi g21 235 (Int32.toNatClampNeg (hi g21 226 18))) = g25
  have jg25 : jD h0 g25 := JDw eg25 jg21 rfl
  have f26 := liR s0 jg25.ks
  have f27 := rgT (hi g25 226 18)
  refine Ok.chk (ixT (by omega) (by omega)) (fun c28 => ?_)
  generalize eg29 : wrI g25 260 7 (hi g25 236 (Int32.toNatClampNeg (hi g25 226 18))) = g29
  have jg29 : jD h0 g29 := JDw eg29 jg25 rfl
  refine Ok.bind (sf_X12_tuneBits (h0 := h0) s0 r0 n g29  (by omega) jg29 ) (fun q8 hq8 => ?_)
  obtain ⟨eq8, xq8⟩ := hq8
  rw [eq8]
  refine Ok.bind (sf_X12_bits (h0 := h0) s0 r0 n g29 q8.1 (by omega) jg29 ) (fun q10 hq10 => ?_)
  obtain ⟨eq10, xq10⟩ := hq10
  rw [eq10]
  generalize eg30 : wrI g29 260 8 q10.1 = g30
  have jg30 : jD h0 g30 := JDw eg30 jg29 rfl
  have f31 := rgT (x4)
  have f32 := rgT (x5)
  refine Ok.bind (sf_X12_lawTells (h0 := h0) s0 r0 n g30 x4 x5 (by omega) jg30 (by omega) (by omega)) (fun q12 hq12 => ?_)
  obtain ⟨jq12, xq12⟩ := hq12
  exact Ok.ret ⟨jq12, trivial⟩
set_option maxRecDepth 100000 in
set_option maxHeartbeats 4000000 in
theorem sf_X12_wayOf {h0 : Hp} (s0 : rS h0) (r0 : rwO (cnN h0) (hi h0 263)) (n : Nat) (h : Hp) (x1 : Int32) (x2 : Int32) (x3 : Int32) (x4 : Int32) (hn : 17179869185 ≤ n) (j : jD h0 h) (p0 : 0 ≤ x1.toInt) (p1 : x1.toInt < 5) (p2 : 0 ≤ x2.toInt) (p3 : x2.toInt < cnN h0) (p4 : 0 ≤ x3.toInt) (p5 : x3.toInt < 4) : Ok (F_X12_wayOf n h x1 x2 x3 x4) (fun q => jD h0 q.2 ∧ (0 ≤ q.1.toInt ∧ q.1.toInt < cnN h0)) := by
  unfold F_X12_wayOf
  have cn0 := cnR s0
  have gn0 := s0.2.2.2.1
  have f1 := lit_56
  have f2 := rgT (x1)
  first | have f3 := adT (56) (x1) (by omega) (by omega) | have f3 := adT (56) (x1)
  have f4 := rgT (56 + x1)
  refine Ok.chk (ixT (by omega) (by omega)) (fun c5 => ?_)
  have f6 := rgT (x2)
  first | have f7 := rwR1 (j.rw r0) (56 + x1) (by omega) (by omega) | have f7 := rwR1 (j.rw r0) (56 + x1)
  first | have f8 := rwR2 (j.rw r0) (56 + x1) (by omega) (by omega) | have f8 := rwR2 (j.rw r0) (56 + x1)
  have f9 := rgT (hi h 263 (Int32.toNatClampNeg (56 + x1)))
  have f10 := rgT (x3)
  have f11 := rgT (x4)
  refine Ok.bind (sf_X12_toldOf (h0 := h0) s0 r0 n h x2 (hi h 263 (Int32.toNatClampNeg (56 + x1))) x1 x3 x4 (by omega) j (by omega) (by omega) (by omega) (by omega)) (fun q2 hq2 => ?_)
  obtain ⟨jq2, xq2⟩ := hq2
  have f12 := lit_0
  have f13 := rgT (q2.1)
  refine Ok.le (fun c14 => ?_) (fun c14 => ?_)
  · have f15 := lit_5
    first | have f16 := mlT (5) (x2) (5) lit_5 (by omega) (by omega) | have f16 := mlT (5) (x2) (5) lit_5
    first | have f17 := rmI (q2.1) (5) 5 lit_5 (by decide) (by omega) | have f17 := rmI (q2.1) (5) 5 lit_5 (by decide)
    have f18 := rgT (q2.1 - q2.1 / 5 * 5)
    first | have f19 := adT (5 * x2) (q2.1 - q2.1 / 5 * 5) (by omega) (by omega) | have f19 := adT (5 * x2) (q2.1 - q2.1 / 5 * 5)
    have f20 := rgT ((5 * x2) + (q2.1 - q2.1 / 5 * 5))
    refine Ok.chk (ixT (by omega) (by omega)) (fun c21 => ?_)
    refine Ok.bind (sf_X12_isRoped (h0 := h0) s0 r0 n q2.2 (hi q2.2 264 (Int32.toNatClampNeg ((5 * x2) + (q2.1 - q2.1 / 5 * 5)))) (by omega) jq2 ) (fun q6 hq6 => ?_)
    obtain ⟨eq6, xq6⟩ := hq6
    rw [eq6]
    have f22 := rgT (q6.1)
    refine Ok.eq (fun c23 => ?_) (fun c23 => ?_)
    · first | have f24 := sdR s0 jq2.ks ((5 * x2) + (q2.1 - q2.1 / 5 * 5)) (by omega) (by omega) | have f24 := sdR s0 jq2.ks ((5 * x2) + (q2.1 - q2.1 / 5 * 5))
      have f25 := rgT (hi q2.2 264 (Int32.toNatClampNeg ((5 * x2) + (q2.1 - q2.1 / 5 * 5))))
      refine Ok.ret ⟨jq2, ?_⟩
      show (0 ≤ ((hi q2.2 264 (Int32.toNatClampNeg ((5 * x2) + (q2.1 - q2.1 / 5 * 5)))) : Int32).toInt ∧ ((hi q2.2 264 (Int32.toNatClampNeg ((5 * x2) + (q2.1 - q2.1 / 5 * 5)))) : Int32).toInt < cnN h0)
      omega
    · refine Ok.ret ⟨jq2, ?_⟩
      show (0 ≤ ((x2) : Int32).toInt ∧ ((x2) : Int32).toInt < cnN h0)
      omega
  · have f26 := lit_5
    first | have f27 := mlT (5) (x2) (5) lit_5 (by omega) (by omega) | have f27 := mlT (5) (x2) (5) lit_5
    first | have f28 := adT (5 * x2) (0) (by omega) (by omega) | have f28 := adT (5 * x2) (0)
    have f29 := rgT ((5 * x2) + 0)
    refine Ok.chk (ixT (by omega) (by omega)) (fun c30 => ?_)
    refine Ok.bind (sf_X12_isRoped (h0 := h0) s0 r0 n q2.2 (hi q2.2 264 (Int32.toNatClampNeg ((5 * x2) + 0))) (by omega) jq2 ) (fun q10 hq10 => ?_)
    obtain ⟨eq10, xq10⟩ := hq10
    rw [eq10]
    have f31 := rgT (q10.1)
    refine Ok.eq (fun c32 => ?_) (fun c32 => ?_)
    · first | have f33 := sdR s0 jq2.ks ((5 * x2) + 0) (by omega) (by omega) | have f33 := sdR s0 jq2.ks ((5 * x2) + 0)
      have f34 := rgT (hi q2.2 264 (Int32.toNatClampNeg ((5 * x2) + 0)))
      refine Ok.ret ⟨jq2, ?_⟩
      show (0 ≤ ((hi q2.2 264 (Int32.toNatClampNeg ((5 * x2) + 0))) : Int32).toInt ∧ ((hi q2.2 264 (Int32.toNatClampNeg ((5 * x2) + 0))) : Int32).toInt < cnN h0)
      omega
    · refine Ok.ret ⟨jq2, ?_⟩
      show (0 ≤ ((x2) : Int32).toInt ∧ ((x2) : Int32).toInt < cnN h0)
      omega
set_option maxRecDepth 100000 in
set_option maxHeartbeats 4000000 in
theorem sf_X12_stepOf {h0 : Hp} (s0 : rS h0) (r0 : rwO (cnN h0) (hi h0 263)) (n : Nat) (h : Hp) (x1 : Int32) (hn : 17179869185 ≤ n) (j : jD h0 h) (p0 : 0 ≤ x1.toInt) (p1 : x1.toInt < gnN h0) : Ok (F_X12_stepOf n h x1) (fun q => jD h0 q.2 ∧ (0 ≤ q.1.toInt ∧ q.1.toInt < cnN h0)) := by
  unfold F_X12_stepOf
  have cn0 := cnR s0
  have gn0 := s0.2.2.2.1
  have f1 := lit_51
  have f2 := rgT (x1)
  first | have f3 := adT (51) (x1) (by omega) (by omega) | have f3 := adT (51) (x1)
  have f4 := rgT (51 + x1)
  refine Ok.chk (ixT (by omega) (by omega)) (fun c5 => ?_)
  first | have f6 := rwR1 (j.rw r0) (51 + x1) (by omega) (by omega) | have f6 := rwR1 (j.rw r0) (51 + x1)
  first | have f7 := rwR2 (j.rw r0) (51 + x1) (by omega) (by omega) | have f7 := rwR2 (j.rw r0) (51 + x1)
  have f8 := rgT (hi h 263 (Int32.toNatClampNeg (51 + x1)))
  have f9 := lit_0
  refine Ok.bind (sf_X12_wayOf (h0 := h0) s0 r0 n h x1 (hi h 263 (Int32.toNatClampNeg (51 + x1))) 0 0 (by omega) j (by omega) (by omega) (by omega) (by omega) (by omega) (by omega)) (fun q2 hq2 => ?_)
  obtain ⟨jq2, xq2⟩ := hq2
  have f10 := rgT (q2.1)
  refine Ok.ret ⟨jq2, ?_⟩
  show (0 ≤ ((q2.1) : Int32).toInt ∧ ((q2.1) : Int32).toInt < cnN h0)
  omega
set_option maxRecDepth 100000 in
set_option maxHeartbeats 4000000 in
theorem sf_X12_moveOf {h0 : Hp} (s0 : rS h0) (r0 : rwO (cnN h0) (hi h0 263)) (n : Nat) (h : Hp) (x1 : Int32) (hn : 17179869185 ≤ n) (j : jD h0 h) (p0 : 0 ≤ x1.toInt) (p1 : x1.toInt < gnN h0) : Ok (F_X12_moveOf n h x1) (fun q => jD h0 q.2 ∧ (0 ≤ q.1.toInt ∧ q.1.toInt < cnN h0)) := by
  unfold F_X12_moveOf
  have cn0 := cnR s0
  have gn0 := s0.2.2.2.1
  have f1 := lit_51
  have f2 := rgT (x1)
  first | have f3 := adT (51) (x1) (by omega) (by omega) | have f3 := adT (51) (x1)
  have f4 := rgT (51 + x1)
  refine Ok.chk (ixT (by omega) (by omega)) (fun c5 => ?_)
  first | have f6 := rwR1 (j.rw r0) (51 + x1) (by omega) (by omega) | have f6 := rwR1 (j.rw r0) (51 + x1)
  first | have f7 := rwR2 (j.rw r0) (51 + x1) (by omega) (by omega) | have f7 := rwR2 (j.rw r0) (51 + x1)
  have f8 := rgT (hi h 263 (Int32.toNatClampNeg (51 + x1)))
  have f9 := lit_1
  refine Ok.bind (sf_X12_wayOf (h0 := h0) s0 r0 n h x1 (hi h 263 (Int32.toNatClampNeg (51 + x1))) 1 1 (by omega) j (by omega) (by omega) (by omega) (by omega) (by omega) (by omega)) (fun q2 hq2 => ?_)
  obtain ⟨jq2, xq2⟩ := hq2
  have f10 := rgT (q2.1)
  refine Ok.ret ⟨jq2, ?_⟩
  show (0 ≤ ((q2.1) : Int32).toInt ∧ ((q2.1) : Int32).toInt < cnN h0)
  omega
set_option maxRecDepth 100000 in
set_option maxHeartbeats 4000000 in
theorem sf_X12_costsOf {h0 : Hp} (s0 : rS h0) (r0 : rwO (cnN h0) (hi h0 263)) (n : Nat) (h : Hp) (x1 : Int32) (hn : 17179869185 ≤ n) (j : jD h0 h) (p0 : 0 ≤ x1.toInt) (p1 : x1.toInt < cnN h0) : Ok (F_X12_costsOf n h x1) (fun q => jD h0 q.2 ∧ True) := by
  unfold F_X12_costsOf
  have cn0 := cnR s0
  have gn0 := s0.2.2.2.1
  have f1 := rgT (x1)
  have f2 := lit_0
  have f3 := lit_3
  have f4 := lit_1
  refine Ok.bind (sf_X12_toldOf (h0 := h0) s0 r0 n h x1 0 0 3 1 (by omega) j (by omega) (by omega) (by omega) (by omega)) (fun q1 hq1 => ?_)
  obtain ⟨jq1, xq1⟩ := hq1
  refine Ok.bind (sf_X12_within (h0 := h0) s0 r0 n q1.2 q1.1 0 99 (by omega) jq1 ) (fun q3 hq3 => ?_)
  obtain ⟨eq3, xq3⟩ := hq3
  rw [eq3]
  exact Ok.ret ⟨jq1, trivial⟩
set_option maxRecDepth 100000 in
set_option maxHeartbeats 4000000 in
theorem sfW_X12_costsAll_4 {h0 : Hp} (s0 : rS h0) (r0 : rwO (cnN h0) (hi h0 263)) : ∀ (n : Nat), (∀ (h : Hp) (l1 : Int32) (l2 : Int32), jD h0 h → 0 ≤ l2.toInt → (17179869185 : Int) < n → (17179869185 : Int) + (25 - l2.toInt) < n → Ok (W_X12_costsAll n 4 h l1 l2) (fun q => jD h0 q.2 ∧ True)) := by
  have cn0 := cnR s0
  have gn0 := s0.2.2.2.1
  intro n
  induction n with
  | zero => intro h l1 l2 j i0 hB hM; exfalso; omega
  | succ n ih =>
    intro h l1 l2 j i0 hB hM
    rw [u_X12_costsAll]
    refine Ok.pos rfl ?_
    refine Ok.bind (sf_X12_cells (h0 := h0) s0 r0 n h  (by omega) j ) (fun q1 hq1 => ?_)
    obtain ⟨eq1, xq1⟩ := hq1
    rw [eq1]
    have f1 := rgT (q1.1)
    have f2 := rgT (l2)
    refine Ok.le (fun c3 => ?_) (fun c3 => ?_)
    · exact Ok.ret ⟨j, trivial⟩
    · refine Ok.chk (ixT (by omega) (by omega)) (fun c4 => ?_)
      first | have f5 := rwR1 (j.rw r0) l2 (by omega) (by omega) | have f5 := rwR1 (j.rw r0) l2
      first | have f6 := rwR2 (j.rw r0) l2 (by omega) (by omega) | have f6 := rwR2 (j.rw r0) l2
      have f7 := rgT (hi h 263 (Int32.toNatClampNeg l2))
      have f8 := lit_0
      refine Ok.le (fun c9 => ?_) (fun c9 => ?_)
      · have f10 := lit_1
        first | have f11 := adT (l2) (1) (by omega) (by omega) | have f11 := adT (l2) (1)
        have f12 := rgT (l2 + 1)
        exact ih h l1 (l2 + 1) j (by omega) (by omega) (by omega)
      · refine Ok.bind (sf_X12_costsOf (h0 := h0) s0 r0 n h l2 (by omega) j (by omega) (by omega)) (fun q6 hq6 => ?_)
        obtain ⟨jq6, xq6⟩ := hq6
        have f13 := lit_1
        first | have f14 := adT (l2) (1) (by omega) (by omega) | have f14 := adT (l2) (1)
        have f15 := rgT (l2 + 1)
        exact ih q6.2 (l1 + q6.1) (l2 + 1) jq6 (by omega) (by omega) (by omega)
set_option maxRecDepth 100000 in
set_option maxHeartbeats 4000000 in
theorem sf_X12_costsAll {h0 : Hp} (s0 : rS h0) (r0 : rwO (cnN h0) (hi h0 263)) (n : Nat) (h : Hp) (hn : 34359738369 ≤ n) (j : jD h0 h) : Ok (F_X12_costsAll n h) (fun q => jD h0 q.2 ∧ True) := by
  unfold F_X12_costsAll
  have cn0 := cnR s0
  have gn0 := s0.2.2.2.1
  have f1 := lit_0
  exact sfW_X12_costsAll_4 (h0 := h0) s0 r0 n h 0 0 j (by omega) (by omega) (by omega)
set_option maxRecDepth 100000 in
set_option maxHeartbeats 4000000 in
theorem sf_X12_cellAt {h0 : Hp} (s0 : rS h0) (r0 : rwO (cnN h0) (hi h0 263)) (n : Nat) (h : Hp) (x1 : Int32) (x2 : Int32) (hn : 1 ≤ n) (j : jD h0 h) : Ok (F_X12_cellAt n h x1 x2) (fun q => q.2 = h ∧ True) := by
  unfold F_X12_cellAt
  have cn0 := cnR s0
  have gn0 := s0.2.2.2.1
  have f1 := liR s0 j.ks
  have f2 := rgT (hi h 226 18)
  refine Ok.chk (ixT (by omega) (by omega)) (fun c3 => ?_)
  exact Ok.ret ⟨rfl, trivial⟩
