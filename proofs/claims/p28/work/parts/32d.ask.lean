/-! the reference asked -/
set_option maxRecDepth 100000 in
set_option maxHeartbeats 4000000 in
theorem sf_X12_copiesStill {h0 : Hp} (s0 : rS h0) (n : Nat) (h : Hp) (hn : 100 ≤ n) (j : jA h0 h) : Ok (F_X12_copiesStill n h) (fun q => jA h0 q ∧ True) := by
  unfold F_X12_copiesStill
  have cn0 := cnR s0
  have gn0 := s0.2.2.2.1
  refine Ok.bind (sf_X12_copies (h0 := h0) s0 n h  (by omega) j ) (fun q1 hq1 => ?_)
  obtain ⟨jq1, xq1⟩ := hq1
  generalize eg1 : wrI q1 226 56 1 = g1
  have jg1 : jA h0 g1 := JAw eg1 jq1 (by decide) (by decide) (by decide)
  exact Ok.ret ⟨jg1, trivial⟩
set_option maxRecDepth 100000 in
set_option maxHeartbeats 4000000 in
theorem sfW_X12_beatGoes_140 {h0 : Hp} (s0 : rS h0) : ∀ (n : Nat), (∀ (h : Hp) (l1 : Int32), jA h0 h → 0 ≤ l1.toInt → (∀ k : Nat, (k : Int) < gnN h0 → (hi h 265 k).toInt < cnN h0) → (34359738369 : Int) < n → (34359738369 : Int) + (5 - l1.toInt) < n → Ok (W_X12_beatGoes n 140 h l1) (fun q => jA h0 q ∧ True)) := by
  have cn0 := cnR s0
  have gn0 := s0.2.2.2.1
  intro n
  induction n with
  | zero => intro h l1 j i0 i1 hB hM; exfalso; omega
  | succ n ih =>
    intro h l1 j i0 i1 hB hM
    rw [u_X12_beatGoes]
    refine Ok.neg (by decide) ?_
    refine Ok.neg (by decide) ?_
    refine Ok.neg (by decide) ?_
    refine Ok.pos rfl ?_
    have f1 := liR s0 j.ks
    have f2 := rgT (hi h 226 18)
    refine Ok.chk (ixT (by omega) (by omega)) (fun c3 => ?_)
    have f4 := gnR s0 j.ks
    have f5 := rgT (hi h 242 (Int32.toNatClampNeg (hi h 226 18)))
    have f6 := rgT (l1)
    refine Ok.le (fun c7 => ?_) (fun c7 => ?_)
    · have f8 := boT (hi h 226 56)
      have f9 := lit_0
      refine Ok.eq (fun c10 => ?_) (fun c10 => ?_)
      · refine Ok.bind (sf_X12_spreads (h0 := h0) s0 n h  (by omega) j ) (fun q23 hq23 => ?_)
        obtain ⟨jq23, xq23⟩ := hq23
        exact Ok.ret ⟨jq23, trivial⟩
      · exact Ok.ret ⟨j, trivial⟩
    · refine Ok.chk (ixT (by omega) (by omega)) (fun c11 => ?_)
      have f12 := lit_0
      have f13n := ncT i0
      have f13m := i1 (Int32.toNatClampNeg l1) (by omega)
      have f13 := tnR j (Int32.toNatClampNeg l1)
      have f14 := rgT (hi h 265 (Int32.toNatClampNeg l1))
      refine Ok.le (fun c15 => ?_) (fun c15 => ?_)
      · refine Ok.pos c11 ?_
        have f16 := lit_51
        first | have f17 := adT (51) (l1) (by omega) (by omega) | have f17 := adT (51) (l1)
        have f18 := rgT (51 + l1)
        refine Ok.chk (ixT (by omega) (by omega)) (fun c19 => ?_)
        have f20 := lit_56
        first | have f21 := adT (56) (l1) (by omega) (by omega) | have f21 := adT (56) (l1)
        have f22 := rgT (56 + l1)
        refine Ok.chk (ixT (by omega) (by omega)) (fun c23 => ?_)
        refine Ok.pos c23 ?_
        generalize eg24 : wrI h 263 (Int32.toNatClampNeg (51 + l1)) (hi h 265 (Int32.toNatClampNeg l1)) = g24
        have f25 := ncT (x := (51 + l1)) (by omega)
        have jg24 : jA h0 g24 := JA63g eg24 j (by omega) (fun _ _ => ⟨by omega, by omega⟩)
        generalize eg26 : wrI g24 263 (Int32.toNatClampNeg (56 + l1)) ((hi g24 263 (Int32.toNatClampNeg (56 + l1))) + 1) = g26
        first | have f27 := rwR1 jg24.rw (56 + l1) (by omega) (by omega) | have f27 := rwR1 jg24.rw (56 + l1)
        first | have f28 := rwR2 jg24.rw (56 + l1) (by omega) (by omega) | have f28 := rwR2 jg24.rw (56 + l1)
        have f29 := rgT (hi g24 263 (Int32.toNatClampNeg (56 + l1)))
        have f30 := lit_1
        first | have f31 := adT (hi g24 263 (Int32.toNatClampNeg (56 + l1))) (1) (by omega) (by omega) | have f31 := adT (hi g24 263 (Int32.toNatClampNeg (56 + l1))) (1)
        have f32 := rgT ((hi g24 263 (Int32.toNatClampNeg (56 + l1))) + 1)
        have f33 := ncT (x := (56 + l1)) (by omega)
        have jg26 : jA h0 g26 := JA63g eg26 jg24 (by omega) (fun _ _ => ⟨by omega, by omega⟩)
        first | have f34 := adT (l1) (1) (by omega) (by omega) | have f34 := adT (l1) (1)
        have f35 := rgT (l1 + 1)
        exact ih g26 (l1 + 1) jg26 (by omega) (fun k hk => by rw [hiA eg26 265 k (by decide), hiA eg24 265 k (by decide)]; exact i1 k hk) (by omega) (by omega)
      · have f36 := lit_1
        first | have f37 := adT (l1) (1) (by omega) (by omega) | have f37 := adT (l1) (1)
        have f38 := rgT (l1 + 1)
        exact ih h (l1 + 1) j (by omega) i1 (by omega) (by omega)
set_option maxRecDepth 100000 in
set_option maxHeartbeats 4000000 in
theorem sfW_X12_beatGoes_81 {h0 : Hp} (s0 : rS h0) : ∀ (n : Nat), (∀ (h : Hp) (l1 : Int32), jA h0 h → 0 ≤ l1.toInt → (∀ k : Nat, (k : Int) < gnN h0 → (hi h 265 k).toInt < cnN h0) → (51539607553 : Int) < n → (51539607553 : Int) + (5 - l1.toInt) < n → Ok (W_X12_beatGoes n 81 h l1) (fun q => jA h0 q ∧ True)) := by
  have cn0 := cnR s0
  have gn0 := s0.2.2.2.1
  intro n
  induction n with
  | zero => intro h l1 j i0 i1 hB hM; exfalso; omega
  | succ n ih =>
    intro h l1 j i0 i1 hB hM
    rw [u_X12_beatGoes]
    refine Ok.neg (by decide) ?_
    refine Ok.neg (by decide) ?_
    refine Ok.pos rfl ?_
    have f1 := liR s0 j.ks
    have f2 := rgT (hi h 226 18)
    refine Ok.chk (ixT (by omega) (by omega)) (fun c3 => ?_)
    have f4 := gnR s0 j.ks
    have f5 := rgT (hi h 242 (Int32.toNatClampNeg (hi h 226 18)))
    have f6 := rgT (l1)
    refine Ok.le (fun c7 => ?_) (fun c7 => ?_)
    · have f8 := lit_0
      exact sfW_X12_beatGoes_140 (h0 := h0) s0 n h 0 j (by omega) i1 (by omega) (by omega)
    · have f9 := lit_51
      first | have f10 := adT (51) (l1) (by omega) (by omega) | have f10 := adT (51) (l1)
      have f11 := rgT (51 + l1)
      refine Ok.chk (ixT (by omega) (by omega)) (fun c12 => ?_)
      first | have f13 := rwR1 j.rw (51 + l1) (by omega) (by omega) | have f13 := rwR1 j.rw (51 + l1)
      first | have f14 := rwR2 j.rw (51 + l1) (by omega) (by omega) | have f14 := rwR2 j.rw (51 + l1)
      have f15 := rgT (hi h 263 (Int32.toNatClampNeg (51 + l1)))
      have f16 := rgT (hi h 263 61)
      refine Ok.bind (sa_X12_isLoud (h0 := h0) s0 n h (hi h 263 (Int32.toNatClampNeg (51 + l1))) (hi h 263 61) (by omega) j (by omega) (by omega)) (fun q13 hq13 => ?_)
      obtain ⟨eq13, xq13⟩ := hq13
      rw [eq13]
      have f17 := rgT (q13.1)
      have f18 := lit_0
      refine Ok.eq (fun c19 => ?_) (fun c19 => ?_)
      · refine Ok.chk (ixT (by omega) (by omega)) (fun c20 => ?_)
        generalize eg21 : wrI h 265 (Int32.toNatClampNeg l1) (-1) = g21
        have f22 := lit_m1
        have jg21 : jA h0 g21 := JA65 eg21 j (by omega) (by omega)
        have f23 := lit_1
        first | have f24 := adT (l1) (1) (by omega) (by omega) | have f24 := adT (l1) (1)
        have f25 := rgT (l1 + 1)
        exact ih g21 (l1 + 1) jg21 (by omega) (tnW eg21 (fun _ => rfl) i1 (by omega)) (by omega) (by omega)
      · refine Ok.bind (sa_X12_moveOf (h0 := h0) s0 n h l1 (by omega) j (by omega) (by omega)) (fun q17 hq17 => ?_)
        obtain ⟨jq17, xq17⟩ := hq17
        refine Ok.chk (ixT (by omega) (by omega)) (fun c26 => ?_)
        generalize eg27 : wrI q17.2 265 (Int32.toNatClampNeg l1) q17.1 = g27
        have f28 := rgT (q17.1)
        have jg27 : jA h0 g27 := JA65 eg27 jq17 (by omega) (by omega)
        have f29 := lit_1
        first | have f30 := adT (l1) (1) (by omega) (by omega) | have f30 := adT (l1) (1)
        have f31 := rgT (l1 + 1)
        exact ih g27 (l1 + 1) jg27 (by omega) (tnW eg27 (fun k => by rw [xq17.1.at 265 (fun _ => rfl)]) i1 (by omega)) (by omega) (by omega)
set_option maxRecDepth 100000 in
set_option maxHeartbeats 4000000 in
theorem sfW_X12_beatGoes_34 {h0 : Hp} (s0 : rS h0) : ∀ (n : Nat), (∀ (h : Hp) (l1 : Int32), jA h0 h → 0 ≤ l1.toInt → (∀ k : Nat, (k : Int) < gnN h0 → 0 ≤ (hi h 265 k).toInt ∧ (hi h 265 k).toInt < cnN h0) → (68719476737 : Int) < n → (68719476737 : Int) + (5 - l1.toInt) < n → Ok (W_X12_beatGoes n 34 h l1) (fun q => jA h0 q ∧ True)) := by
  have cn0 := cnR s0
  have gn0 := s0.2.2.2.1
  intro n
  induction n with
  | zero => intro h l1 j i0 i1 hB hM; exfalso; omega
  | succ n ih =>
    intro h l1 j i0 i1 hB hM
    rw [u_X12_beatGoes]
    refine Ok.neg (by decide) ?_
    refine Ok.pos rfl ?_
    have f1 := liR s0 j.ks
    have f2 := rgT (hi h 226 18)
    refine Ok.chk (ixT (by omega) (by omega)) (fun c3 => ?_)
    have f4 := gnR s0 j.ks
    have f5 := rgT (hi h 242 (Int32.toNatClampNeg (hi h 226 18)))
    have f6 := rgT (l1)
    refine Ok.le (fun c7 => ?_) (fun c7 => ?_)
    · generalize eg8 : wrI h 263 61 ((hi h 263 61) + 1) = g8
      have f9 := rgT (hi h 263 61)
      have f10 := lit_1
      first | have f11 := adT (hi h 263 61) (1) (by omega) (by omega) | have f11 := adT (hi h 263 61) (1)
      have f12 := rgT ((hi h 263 61) + 1)
      have jg8 : jA h0 g8 := JA63g eg8 j (by decide) (fun _ q => absurd q (by decide))
      have f13 := lit_0
      exact sfW_X12_beatGoes_81 (h0 := h0) s0 n g8 0 jg8 (by omega) (fun k hk => by rw [hiA eg8 265 k (by decide)]; exact (i1 k hk).2) (by omega) (by omega)
    · refine Ok.chk (ixT (by omega) (by omega)) (fun c14 => ?_)
      have f15 := lit_51
      first | have f16 := adT (51) (l1) (by omega) (by omega) | have f16 := adT (51) (l1)
      have f17 := rgT (51 + l1)
      refine Ok.chk (ixT (by omega) (by omega)) (fun c18 => ?_)
      generalize eg19 : wrI h 263 (Int32.toNatClampNeg (51 + l1)) (hi h 265 (Int32.toNatClampNeg l1)) = g19
      have f20 := ncT i0
      have f21 := i1 (Int32.toNatClampNeg l1) (by omega)
      have f22 := tnR j (Int32.toNatClampNeg l1)
      have f23 := rgT (hi h 265 (Int32.toNatClampNeg l1))
      have f24 := ncT (x := (51 + l1)) (by omega)
      have jg19 : jA h0 g19 := JA63g eg19 j (by omega) (fun _ _ => ⟨by omega, by omega⟩)
      have f25 := lit_1
      first | have f26 := adT (l1) (1) (by omega) (by omega) | have f26 := adT (l1) (1)
      have f27 := rgT (l1 + 1)
      exact ih g19 (l1 + 1) jg19 (by omega) (fun k hk => by rw [hiA eg19 265 k (by decide)]; exact i1 k hk) (by omega) (by omega)
set_option maxRecDepth 100000 in
set_option maxHeartbeats 4000000 in
theorem sfW_X12_beatGoes_2 {h0 : Hp} (s0 : rS h0) : ∀ (n : Nat), (∀ (h : Hp) (l1 : Int32), jA h0 h → 0 ≤ l1.toInt → (∀ k : Nat, (k : Int) < l1.toInt → 0 ≤ (hi h 265 k).toInt ∧ (hi h 265 k).toInt < cnN h0) → (85899345921 : Int) < n → (85899345921 : Int) + (5 - l1.toInt) < n → Ok (W_X12_beatGoes n 2 h l1) (fun q => jA h0 q ∧ True)) := by
  have cn0 := cnR s0
  have gn0 := s0.2.2.2.1
  intro n
  induction n with
  | zero => intro h l1 j i0 i1 hB hM; exfalso; omega
  | succ n ih =>
    intro h l1 j i0 i1 hB hM
    rw [u_X12_beatGoes]
    refine Ok.pos rfl ?_
    have f1 := liR s0 j.ks
    have f2 := rgT (hi h 226 18)
    refine Ok.chk (ixT (by omega) (by omega)) (fun c3 => ?_)
    have f4 := gnR s0 j.ks
    have f5 := rgT (hi h 242 (Int32.toNatClampNeg (hi h 226 18)))
    have f6 := rgT (l1)
    refine Ok.le (fun c7 => ?_) (fun c7 => ?_)
    · have f8 := lit_0
      exact sfW_X12_beatGoes_34 (h0 := h0) s0 n h 0 j (by omega) (fun k hk => i1 k (by omega)) (by omega) (by omega)
    · refine Ok.bind (sa_X12_stepOf (h0 := h0) s0 n h l1 (by omega) j (by omega) (by omega)) (fun q3 hq3 => ?_)
      obtain ⟨jq3, xq3⟩ := hq3
      refine Ok.chk (ixT (by omega) (by omega)) (fun c9 => ?_)
      generalize eg10 : wrI q3.2 265 (Int32.toNatClampNeg l1) q3.1 = g10
      have f11 := rgT (q3.1)
      have jg10 : jA h0 g10 := JA65 eg10 jq3 (by omega) (by omega)
      have f12 := lit_1
      first | have f13 := adT (l1) (1) (by omega) (by omega) | have f13 := adT (l1) (1)
      have f14 := rgT (l1 + 1)
      exact ih g10 (l1 + 1) jg10 (by omega) (tnS eg10 xq3.1 i1 (by omega) (by omega) (by omega) (by omega)) (by omega) (by omega)
set_option maxRecDepth 100000 in
set_option maxHeartbeats 4000000 in
theorem sf_X12_beatGoes {h0 : Hp} (s0 : rS h0) (n : Nat) (h : Hp) (hn : 103079215105 ≤ n) (j : jA h0 h) : Ok (F_X12_beatGoes n h) (fun q => jA h0 q ∧ True) := by
  unfold F_X12_beatGoes
  have cn0 := cnR s0
  have gn0 := s0.2.2.2.1
  have f1 := lit_0
  exact sfW_X12_beatGoes_2 (h0 := h0) s0 n h 0 j (by omega) (fun k hk => by omega) (by omega) (by omega)
set_option maxRecDepth 100000 in
set_option maxHeartbeats 4000000 in
theorem sfW_X12_goes_2 {h0 : Hp} (s0 : rS h0) : ∀ (n : Nat), (∀ (h : Hp) (l1 : Int32) (l2 : Int32), jA h0 h → (103079215105 : Int) < n → (103079215105 : Int) + (l1.toInt - l2.toInt) < n → Ok (W_X12_goes n 2 h l1 l2) (fun q => jA h0 q ∧ True)) := by
  have cn0 := cnR s0
  have gn0 := s0.2.2.2.1
  intro n
  induction n with
  | zero => intro h l1 l2 j hB hM; exfalso; omega
  | succ n ih =>
    intro h l1 l2 j hB hM
    rw [u_X12_goes]
    refine Ok.pos rfl ?_
    have f1 := rgT (l1)
    have f2 := rgT (l2)
    refine Ok.le (fun c3 => ?_) (fun c3 => ?_)
    · exact Ok.ret ⟨j, trivial⟩
    · refine Ok.bind (sf_X12_beatGoes (h0 := h0) s0 n h  (by omega) j ) (fun q2 hq2 => ?_)
      obtain ⟨jq2, xq2⟩ := hq2
      have f4 := lit_1
      first | have f5 := adT (l2) (1) (by omega) (by omega) | have f5 := adT (l2) (1)
      have f6 := rgT (l2 + 1)
      exact ih q2 l1 (l2 + 1) jq2  (by omega) (by omega)
set_option maxRecDepth 100000 in
set_option maxHeartbeats 4000000 in
theorem sf_X12_goes {h0 : Hp} (s0 : rS h0) (n : Nat) (h : Hp) (x1 : Int32) (hn : 120259084289 ≤ n) (j : jA h0 h) : Ok (F_X12_goes n h x1) (fun q => jA h0 q ∧ True) := by
  unfold F_X12_goes
  have cn0 := cnR s0
  have gn0 := s0.2.2.2.1
  have f1 := rgT (x1)
  have f2 := lit_0
  exact sfW_X12_goes_2 (h0 := h0) s0 n h x1 0 j  (by omega) (by omega)
set_option maxRecDepth 100000 in
set_option maxHeartbeats 4000000 in
theorem sfW_X12_isWayWithout_7 {h0 : Hp} (s0 : rS h0) : ∀ (n : Nat), (∀ (h : Hp) (l1 : Int32) (l2 : Int32) (l3 : Int32) (l4 : Int32) (l5 : Int32), jA h0 h → 0 ≤ l5.toInt → l3.toInt ≤ 100 → (34359738369 : Int) < n → (34359738369 : Int) + (25 - l5.toInt) < n → Ok (W_X12_isWayWithout n 7 h l1 l2 l3 l4 l5) (fun q => jA h0 q.2 ∧ True)) := by
  have cn0 := cnR s0
  have gn0 := s0.2.2.2.1
  intro n
  induction n with
  | zero => intro h l1 l2 l3 l4 l5 j i0 i1 hB hM; exfalso; omega
  | succ n ih =>
    intro h l1 l2 l3 l4 l5 j i0 i1 hB hM
    rw [u_X12_isWayWithout]
    refine Ok.pos rfl ?_
    refine Ok.bind (sa_X12_cells (h0 := h0) s0 n h  (by omega) j ) (fun q1 hq1 => ?_)
    obtain ⟨eq1, xq1⟩ := hq1
    rw [eq1]
    have f1 := rgT (q1.1)
    have f2 := rgT (l5)
    refine Ok.le (fun c3 => ?_) (fun c3 => ?_)
    · have f4 := rgT (l1)
      have f5 := rgT (hi h 263 61)
      refine Ok.bind (sf_X12_fillsReach (h0 := h0) s0 n h 267 l1 (hi h 263 61) (by omega) j (Or.inl rfl)) (fun q4 hq4 => ?_)
      obtain ⟨jq4, xq4⟩ := hq4
      have f6 := rgT (l2)
      have f7 := rgT (l3)
      refine Ok.bind (sa_X12_firstAt (h0 := h0) s0 n q4 l2 l3 (by omega) jq4 (by omega)) (fun q6 hq6 => ?_)
      obtain ⟨eq6, xq6⟩ := hq6
      rw [eq6]
      have f8 := rgT (q6.1)
      have f9 := lit_0
      refine Ok.lt (fun c10 => ?_) (fun c10 => ?_)
      · exact Ok.ret ⟨jq4, trivial⟩
      · exact Ok.ret ⟨jq4, trivial⟩
    · have f11 := and_rg (((l4 : Int32) >>> ((l5 : Int32) &&& 31)) : Int32) (1 : Int32) 1 lit_1 (by decide)
      have f12 := lit_1
      refine Ok.eq (fun c13 => ?_) (fun c13 => ?_)
      · refine Ok.chk (ixT (by omega) (by omega)) (fun c14 => ?_)
        generalize eg15 : wrI h 263 (Int32.toNatClampNeg l5) 0 = g15
        have f16 := lit_0
        have f17 := ncT (x := l5) (by omega)
        have jg15 : jA h0 g15 := JA63z eg15 j (by omega) (by omega)
        have f18 := rgT (l3)
        first | have f19 := adT (l5) (1) (by omega) (by omega) | have f19 := adT (l5) (1)
        have f20 := rgT (l5 + 1)
        exact ih g15 l1 l2 l3 l4 (l5 + 1) jg15 (by omega) (by omega) (by omega) (by omega)
      · have f21 := rgT (l3)
        first | have f22 := adT (l5) (1) (by omega) (by omega) | have f22 := adT (l5) (1)
        have f23 := rgT (l5 + 1)
        exact ih h l1 l2 l3 l4 (l5 + 1) j (by omega) (by omega) (by omega) (by omega)
set_option maxRecDepth 100000 in
set_option maxHeartbeats 4000000 in
theorem sf_X12_isWayWithout {h0 : Hp} (s0 : rS h0) (n : Nat) (h : Hp) (x1 : Int32) (x2 : Int32) (x3 : Int32) (x4 : Int32) (hn : 51539607553 ≤ n) (j : jA h0 h) (p0 : x3.toInt ≤ 100) : Ok (F_X12_isWayWithout n h x1 x2 x3 x4) (fun q => jA h0 q.2 ∧ True) := by
  unfold F_X12_isWayWithout
  have cn0 := cnR s0
  have gn0 := s0.2.2.2.1
  refine Ok.bind (sf_X12_copies (h0 := h0) s0 n h  (by omega) j ) (fun q11 hq11 => ?_)
  obtain ⟨jq11, xq11⟩ := hq11
  have f1 := rgT (x3)
  have f2 := lit_0
  exact sfW_X12_isWayWithout_7 (h0 := h0) s0 n q11 x1 x2 x3 x4 0 jq11 (by omega) (by omega) (by omega) (by omega)
set_option maxRecDepth 100000 in
set_option maxHeartbeats 4000000 in
theorem sfW_X12_fewestMown_20 {h0 : Hp} (s0 : rS h0) : ∀ (n : Nat), (∀ (h : Hp) (l1 : Int32) (l2 : Int32) (l3 : Int32) (l4 : Int32) (l5 : Int32) (l6 : Int32), jA h0 h → l3.toInt ≤ 100 → (51539607553 : Int) < n → (51539607553 : Int) + (2147483648 - l6.toInt) < n → Ok (W_X12_fewestMown n 20 h l1 l2 l3 l4 l5 l6) (fun q => jA h0 q.2 ∧ True)) := by
  have cn0 := cnR s0
  have gn0 := s0.2.2.2.1
  intro n
  induction n with
  | zero => intro h l1 l2 l3 l4 l5 l6 j i0 hB hM; exfalso; omega
  | succ n ih =>
    intro h l1 l2 l3 l4 l5 l6 j i0 hB hM
    rw [u_X12_fewestMown]
    refine Ok.pos rfl ?_
    have f1 := rgT ((1 : Int32) <<< ((l4 : Int32) &&& 31))
    have f2 := rgT (l6)
    refine Ok.le (fun c3 => ?_) (fun c3 => ?_)
    · exact Ok.ret ⟨j, trivial⟩
    · refine Ok.bind (sa_X12_tunesBy (h0 := h0) s0 n h l6 (by omega) j ) (fun q2 hq2 => ?_)
      obtain ⟨eq2, xq2⟩ := hq2
      rw [eq2]
      have f4 := rgT (l5)
      have f5 := lit_0
      refine Ok.lt (fun c6 => ?_) (fun c6 => ?_)
      · have f7 := rgT (l1)
        have f8 := rgT (l2)
        have f9 := rgT (l3)
        have f10 := rgT (q2.1)
        refine Ok.bind (sf_X12_isWayWithout (h0 := h0) s0 n h l1 l2 l3 q2.1 (by omega) j (by omega)) (fun q5 hq5 => ?_)
        obtain ⟨jq5, xq5⟩ := hq5
        have f11 := rgT (q5.1)
        refine Ok.eq (fun c12 => ?_) (fun c12 => ?_)
        · have f13 := lit_1
          first | have f14 := adT (l6) (1) (by omega) (by omega) | have f14 := adT (l6) (1)
          have f15 := rgT (l6 + 1)
          exact ih q5.2 l1 l2 l3 l4 l5 (l6 + 1) jq5 (by omega) (by omega) (by omega)
        · have f16 := lit_1
          first | have f17 := adT (l6) (1) (by omega) (by omega) | have f17 := adT (l6) (1)
          have f18 := rgT (l6 + 1)
          exact ih q5.2 l1 l2 l3 l4 q2.1 (l6 + 1) jq5 (by omega) (by omega) (by omega)
      · refine Ok.bind (sa_X12_bits (h0 := h0) s0 n h q2.1 (by omega) j ) (fun q8 hq8 => ?_)
        obtain ⟨eq8, xq8⟩ := hq8
        rw [eq8]
        refine Ok.bind (sa_X12_bits (h0 := h0) s0 n h l5 (by omega) j ) (fun q10 hq10 => ?_)
        obtain ⟨eq10, xq10⟩ := hq10
        rw [eq10]
        have f19 := rgT (q10.1)
        have f20 := rgT (q8.1)
        refine Ok.le (fun c21 => ?_) (fun c21 => ?_)
        · have f22 := rgT (l3)
          have f23 := lit_1
          first | have f24 := adT (l6) (1) (by omega) (by omega) | have f24 := adT (l6) (1)
          have f25 := rgT (l6 + 1)
          exact ih h l1 l2 l3 l4 l5 (l6 + 1) j (by omega) (by omega) (by omega)
        · have f26 := rgT (l1)
          have f27 := rgT (l2)
          have f28 := rgT (l3)
          have f29 := rgT (q2.1)
          refine Ok.bind (sf_X12_isWayWithout (h0 := h0) s0 n h l1 l2 l3 q2.1 (by omega) j (by omega)) (fun q13 hq13 => ?_)
          obtain ⟨jq13, xq13⟩ := hq13
          have f30 := rgT (q13.1)
          refine Ok.eq (fun c31 => ?_) (fun c31 => ?_)
          · have f32 := lit_1
            first | have f33 := adT (l6) (1) (by omega) (by omega) | have f33 := adT (l6) (1)
            have f34 := rgT (l6 + 1)
            exact ih q13.2 l1 l2 l3 l4 l5 (l6 + 1) jq13 (by omega) (by omega) (by omega)
          · have f35 := lit_1
            first | have f36 := adT (l6) (1) (by omega) (by omega) | have f36 := adT (l6) (1)
            have f37 := rgT (l6 + 1)
            exact ih q13.2 l1 l2 l3 l4 q2.1 (l6 + 1) jq13 (by omega) (by omega) (by omega)
set_option maxRecDepth 100000 in
set_option maxHeartbeats 4000000 in
theorem sf_X12_fewestMown {h0 : Hp} (s0 : rS h0) (n : Nat) (h : Hp) (x1 : Int32) (x2 : Int32) (x3 : Int32) (hn : 68719476737 ≤ n) (j : jA h0 h) (p0 : x3.toInt ≤ 100) : Ok (F_X12_fewestMown n h x1 x2 x3) (fun q => jA h0 q.2 ∧ True) := by
  unfold F_X12_fewestMown
  have cn0 := cnR s0
  have gn0 := s0.2.2.2.1
  refine Ok.bind (sf_X12_copies (h0 := h0) s0 n h  (by omega) j ) (fun q16 hq16 => ?_)
  obtain ⟨jq16, xq16⟩ := hq16
  refine Ok.bind (sa_X12_tuneBits (h0 := h0) s0 n q16  (by omega) jq16 ) (fun q18 hq18 => ?_)
  obtain ⟨eq18, xq18⟩ := hq18
  rw [eq18]
  refine Ok.bind (sa_X12_bits (h0 := h0) s0 n q16 q18.1 (by omega) jq16 ) (fun q20 hq20 => ?_)
  obtain ⟨eq20, xq20⟩ := hq20
  rw [eq20]
  have f1 := rgT (x3)
  have f2 := lit_0
  exact sfW_X12_fewestMown_20 (h0 := h0) s0 n q16 x1 x2 x3 q20.1 (-2) 0 jq16 (by omega) (by omega) (by omega)
set_option maxRecDepth 100000 in
set_option maxHeartbeats 4000000 in
theorem sf_X12_cell {h0 : Hp} (s0 : rS h0) (n : Nat) (h : Hp) (x1 : Int32) (x2 : Int32) (hn : 17179869185 ≤ n) (j : jA h0 h) : Ok (F_X12_cell n h x1 x2) (fun q => jA h0 q.2 ∧ True) := by
  unfold F_X12_cell
  have cn0 := cnR s0
  have gn0 := s0.2.2.2.1
  have f1 := rgT (x1)
  refine Ok.bind (sa_X12_isCell (h0 := h0) s0 n h x1 (by omega) j ) (fun q1 hq1 => ?_)
  obtain ⟨eq1, xq1⟩ := hq1
  rw [eq1]
  have f2 := rgT (q1.1)
  have f3 := lit_0
  refine Ok.eq (fun c4 => ?_) (fun c4 => ?_)
  · exact Ok.ret ⟨j, trivial⟩
  · refine Ok.bind (sf_X12_copies (h0 := h0) s0 n h  (by omega) j ) (fun q4 hq4 => ?_)
    obtain ⟨jq4, xq4⟩ := hq4
    have f5 := rgT (x2)
    refine Ok.eq (fun c6 => ?_) (fun c6 => ?_)
    · refine Ok.chk (ixT (by omega) (by omega)) (fun c7 => ?_)
      first | have f8 := rwR1 jq4.rw x1 (by omega) (by omega) | have f8 := rwR1 jq4.rw x1
      first | have f9 := rwR2 jq4.rw x1 (by omega) (by omega) | have f9 := rwR2 jq4.rw x1
      have f10 := rgT (hi q4 263 (Int32.toNatClampNeg x1))
      refine Ok.eq (fun c11 => ?_) (fun c11 => ?_)
      · exact Ok.ret ⟨jq4, trivial⟩
      · refine Ok.pos c7 ?_
        exact Ok.ret ⟨jq4, trivial⟩
    · have f12 := lit_1
      refine Ok.eq (fun c13 => ?_) (fun c13 => ?_)
      · refine Ok.chk (ixT (by omega) (by omega)) (fun c14 => ?_)
        first | have f15 := rwR1 jq4.rw x1 (by omega) (by omega) | have f15 := rwR1 jq4.rw x1
        first | have f16 := rwR2 jq4.rw x1 (by omega) (by omega) | have f16 := rwR2 jq4.rw x1
        have f17 := rgT (hi q4 263 (Int32.toNatClampNeg x1))
        refine Ok.eq (fun c18 => ?_) (fun c18 => ?_)
        · exact Ok.ret ⟨jq4, trivial⟩
        · have f19 := lit_25
          first | have f20 := adT (25) (x1) (by omega) (by omega) | have f20 := adT (25) (x1)
          have f21 := rgT (25 + x1)
          refine Ok.chk (ixT (by omega) (by omega)) (fun c22 => ?_)
          exact Ok.ret ⟨jq4, trivial⟩
      · have f23 := lit_2
        refine Ok.eq (fun c24 => ?_) (fun c24 => ?_)
        · have f25 := rgT (hi q4 263 61)
          refine Ok.bind (sa_X12_isLoud (h0 := h0) s0 n q4 x1 (hi q4 263 61) (by omega) jq4 (by omega) (by omega)) (fun q15 hq15 => ?_)
          obtain ⟨eq15, xq15⟩ := hq15
          rw [eq15]
          have f26 := rgT (q15.1)
          refine Ok.eq (fun c27 => ?_) (fun c27 => ?_)
          · exact Ok.ret ⟨jq4, trivial⟩
          · exact Ok.ret ⟨jq4, trivial⟩
        · have f28 := lit_3
          refine Ok.eq (fun c29 => ?_) (fun c29 => ?_)
          · refine Ok.bind (sa_X12_isRoped (h0 := h0) s0 n q4 x1 (by omega) jq4 ) (fun q19 hq19 => ?_)
            obtain ⟨eq19, xq19⟩ := hq19
            rw [eq19]
            have f30 := rgT (q19.1)
            refine Ok.eq (fun c31 => ?_) (fun c31 => ?_)
            · exact Ok.ret ⟨jq4, trivial⟩
            · exact Ok.ret ⟨jq4, trivial⟩
          · have f32 := lit_4
            refine Ok.eq (fun c33 => ?_) (fun c33 => ?_)
            · refine Ok.bind (sa_X12_whoAt (h0 := h0) s0 n q4 x1 (by omega) jq4 ) (fun q23 hq23 => ?_)
              obtain ⟨eq23, xq23⟩ := hq23
              rw [eq23]
              exact Ok.ret ⟨jq4, trivial⟩
            · have f34 := lit_5
              refine Ok.eq (fun c35 => ?_) (fun c35 => ?_)
              · refine Ok.bind (sa_X12_costsOf (h0 := h0) s0 n q4 x1 (by omega) jq4 (by omega) (by omega)) (fun q26 hq26 => ?_)
                obtain ⟨jq26, xq26⟩ := hq26
                exact Ok.ret ⟨jq26, trivial⟩
              · exact Ok.ret ⟨jq4, trivial⟩
set_option maxRecDepth 100000 in
set_option maxHeartbeats 4000000 in
theorem sf_X12_goer {h0 : Hp} (s0 : rS h0) (n : Nat) (h : Hp) (x1 : Int32) (x2 : Int32) (hn : 17179869185 ≤ n) (j : jA h0 h) : Ok (F_X12_goer n h x1 x2) (fun q => jA h0 q.2 ∧ True) := by
  unfold F_X12_goer
  have cn0 := cnR s0
  have gn0 := s0.2.2.2.1
  have f1 := rgT (x1)
  refine Ok.bind (sa_X12_isGoer (h0 := h0) s0 n h x1 (by omega) j ) (fun q1 hq1 => ?_)
  obtain ⟨eq1, xq1⟩ := hq1
  rw [eq1]
  have f2 := rgT (q1.1)
  have f3 := lit_0
  refine Ok.eq (fun c4 => ?_) (fun c4 => ?_)
  · exact Ok.ret ⟨j, trivial⟩
  · refine Ok.bind (sf_X12_copies (h0 := h0) s0 n h  (by omega) j ) (fun q4 hq4 => ?_)
    obtain ⟨jq4, xq4⟩ := hq4
    have f5 := rgT (x2)
    refine Ok.eq (fun c6 => ?_) (fun c6 => ?_)
    · have f7 := lit_51
      first | have f8 := adT (51) (x1) (by omega) (by omega) | have f8 := adT (51) (x1)
      have f9 := rgT (51 + x1)
      refine Ok.chk (ixT (by omega) (by omega)) (fun c10 => ?_)
      exact Ok.ret ⟨jq4, trivial⟩
    · have f11 := lit_1
      refine Ok.eq (fun c12 => ?_) (fun c12 => ?_)
      · have f13 := lit_56
        first | have f14 := adT (56) (x1) (by omega) (by omega) | have f14 := adT (56) (x1)
        have f15 := rgT (56 + x1)
        refine Ok.chk (ixT (by omega) (by omega)) (fun c16 => ?_)
        exact Ok.ret ⟨jq4, trivial⟩
      · have f17 := lit_2
        refine Ok.eq (fun c18 => ?_) (fun c18 => ?_)
        · refine Ok.bind (sa_X12_stepOf (h0 := h0) s0 n q4 x1 (by omega) jq4 (by omega) (by omega)) (fun q11 hq11 => ?_)
          obtain ⟨jq11, xq11⟩ := hq11
          exact Ok.ret ⟨jq11, trivial⟩
        · have f19 := lit_3
          refine Ok.eq (fun c20 => ?_) (fun c20 => ?_)
          · refine Ok.bind (sa_X12_moveOf (h0 := h0) s0 n q4 x1 (by omega) jq4 (by omega) (by omega)) (fun q14 hq14 => ?_)
            obtain ⟨jq14, xq14⟩ := hq14
            exact Ok.ret ⟨jq14, trivial⟩
          · exact Ok.ret ⟨jq4, trivial⟩
set_option maxRecDepth 100000 in
set_option maxHeartbeats 4000000 in
theorem sfW_X12_count_321 {h0 : Hp} (s0 : rS h0) : ∀ (n : Nat), (∀ (h : Hp) (l1 : Int32) (l2 : Int32) (l3 : Int32), jA h0 h → 0 ≤ l3.toInt → (1 : Int) < n → (1 : Int) + (5 - l3.toInt) < n → Ok (W_X12_count n 321 h l1 l2 l3) (fun q => q.2 = h ∧ True)) := by
  have cn0 := cnR s0
  have gn0 := s0.2.2.2.1
  intro n
  induction n with
  | zero => intro h l1 l2 l3 j i0 hB hM; exfalso; omega
  | succ n ih =>
    intro h l1 l2 l3 j i0 hB hM
    rw [u_X12_count]
    refine Ok.pos rfl ?_
    have f1 := liR s0 j.ks
    have f2 := rgT (hi h 226 18)
    refine Ok.chk (ixT (by omega) (by omega)) (fun c3 => ?_)
    have f4 := gnR s0 j.ks
    have f5 := rgT (hi h 242 (Int32.toNatClampNeg (hi h 226 18)))
    have f6 := rgT (l3)
    refine Ok.le (fun c7 => ?_) (fun c7 => ?_)
    · exact Ok.ret ⟨rfl, trivial⟩
    · have f8 := lit_56
      first | have f9 := adT (56) (l3) (by omega) (by omega) | have f9 := adT (56) (l3)
      have f10 := rgT (56 + l3)
      refine Ok.chk (ixT (by omega) (by omega)) (fun c11 => ?_)
      first | have f12 := rwR1 j.rw (56 + l3) (by omega) (by omega) | have f12 := rwR1 j.rw (56 + l3)
      first | have f13 := rwR2 j.rw (56 + l3) (by omega) (by omega) | have f13 := rwR2 j.rw (56 + l3)
      have f14 := rgT (hi h 263 (Int32.toNatClampNeg (56 + l3)))
      have f15 := lit_0
      refine Ok.le (fun c16 => ?_) (fun c16 => ?_)
      · have f17 := lit_1
        first | have f18 := adT (l3) (1) (by omega) (by omega) | have f18 := adT (l3) (1)
        have f19 := rgT (l3 + 1)
        exact ih h l1 l2 (l3 + 1) j (by omega) (by omega) (by omega)
      · have f20 := lit_1
        first | have f21 := adT (l3) (1) (by omega) (by omega) | have f21 := adT (l3) (1)
        have f22 := rgT (l3 + 1)
        exact ih h l1 ((l2 : Int32) ||| (((1 : Int32) <<< ((l3 : Int32) &&& 31)) : Int32)) (l3 + 1) j (by omega) (by omega) (by omega)
set_option maxRecDepth 100000 in
set_option maxHeartbeats 4000000 in
theorem sf_X12_count {h0 : Hp} (s0 : rS h0) (n : Nat) (h : Hp) (x1 : Int32) (hn : 34359738369 ≤ n) (j : jA h0 h) : Ok (F_X12_count n h x1) (fun q => jA h0 q.2 ∧ True) := by
  unfold F_X12_count
  have cn0 := cnR s0
  have gn0 := s0.2.2.2.1
  refine Ok.bind (sf_X12_copies (h0 := h0) s0 n h  (by omega) j ) (fun q5 hq5 => ?_)
  obtain ⟨jq5, xq5⟩ := hq5
  have f1 := rgT (x1)
  have f2 := lit_0
  refine Ok.eq (fun c3 => ?_) (fun c3 => ?_)
  · have f4 := liR s0 jq5.ks
    have f5 := rgT (hi q5 226 18)
    refine Ok.chk (ixT (by omega) (by omega)) (fun c6 => ?_)
    exact Ok.ret ⟨jq5, trivial⟩
  · have f7 := lit_1
    refine Ok.eq (fun c8 => ?_) (fun c8 => ?_)
    · have f9 := liR s0 jq5.ks
      have f10 := rgT (hi q5 226 18)
      refine Ok.chk (ixT (by omega) (by omega)) (fun c11 => ?_)
      exact Ok.ret ⟨jq5, trivial⟩
    · have f12 := lit_2
      refine Ok.eq (fun c13 => ?_) (fun c13 => ?_)
      · have f14 := liR s0 jq5.ks
        have f15 := rgT (hi q5 226 18)
        refine Ok.chk (ixT (by omega) (by omega)) (fun c16 => ?_)
        exact Ok.ret ⟨jq5, trivial⟩
      · have f17 := lit_3
        refine Ok.eq (fun c18 => ?_) (fun c18 => ?_)
        · exact Ok.ret ⟨jq5, trivial⟩
        · have f19 := lit_4
          refine Ok.eq (fun c20 => ?_) (fun c20 => ?_)
          · exact Ok.ret ⟨jq5, trivial⟩
          · have f21 := lit_5
            refine Ok.eq (fun c22 => ?_) (fun c22 => ?_)
            · refine Ok.bind (sa_X12_tuneBits (h0 := h0) s0 n q5  (by omega) jq5 ) (fun q16 hq16 => ?_)
              obtain ⟨eq16, xq16⟩ := hq16
              rw [eq16]
              exact Ok.ret ⟨jq5, trivial⟩
            · have f23 := lit_6
              refine Ok.eq (fun c24 => ?_) (fun c24 => ?_)
              · exact Ok.ret ⟨jq5, trivial⟩
              · have f25 := lit_7
                refine Ok.eq (fun c26 => ?_) (fun c26 => ?_)
                · refine Ok.bind (sa_X12_goerBits (h0 := h0) s0 n q5  (by omega) jq5 ) (fun q20 hq20 => ?_)
                  obtain ⟨eq20, xq20⟩ := hq20
                  rw [eq20]
                  exact Ok.ret ⟨jq5, trivial⟩
                · have f27 := lit_8
                  refine Ok.eq (fun c28 => ?_) (fun c28 => ?_)
                  · exact Ok.ret ⟨jq5, trivial⟩
                  · have f29 := lit_9
                    refine Ok.eq (fun c30 => ?_) (fun c30 => ?_)
                    · exact Ok.ret ⟨jq5, trivial⟩
                    · have f31 := lit_10
                      refine Ok.eq (fun c32 => ?_) (fun c32 => ?_)
                      · exact Ok.ret ⟨jq5, trivial⟩
                      · have f33 := lit_11
                        refine Ok.eq (fun c34 => ?_) (fun c34 => ?_)
                        · have f35 := boT (hi q5 273 0)
                          refine Ok.eq (fun c36 => ?_) (fun c36 => ?_)
                          · have f37 := boT (hi q5 273 1)
                            refine Ok.eq (fun c38 => ?_) (fun c38 => ?_)
                            · have f39 := boT (hi q5 273 2)
                              refine Ok.eq (fun c40 => ?_) (fun c40 => ?_)
                              · exact Ok.ret ⟨jq5, trivial⟩
                              · exact Ok.ret ⟨jq5, trivial⟩
                            · have f41 := boT (hi q5 273 2)
                              refine Ok.eq (fun c42 => ?_) (fun c42 => ?_)
                              · exact Ok.ret ⟨jq5, trivial⟩
                              · exact Ok.ret ⟨jq5, trivial⟩
                          · have f43 := boT (hi q5 273 1)
                            refine Ok.eq (fun c44 => ?_) (fun c44 => ?_)
                            · have f45 := boT (hi q5 273 2)
                              refine Ok.eq (fun c46 => ?_) (fun c46 => ?_)
                              · exact Ok.ret ⟨jq5, trivial⟩
                              · exact Ok.ret ⟨jq5, trivial⟩
                            · have f47 := boT (hi q5 273 2)
                              refine Ok.eq (fun c48 => ?_) (fun c48 => ?_)
                              · exact Ok.ret ⟨jq5, trivial⟩
                              · exact Ok.ret ⟨jq5, trivial⟩
                        · have f49 := lit_12
                          refine Ok.eq (fun c50 => ?_) (fun c50 => ?_)
                          · refine Ok.bind (sa_X12_loudBits (h0 := h0) s0 n q5 (hi q5 263 61) (by omega) jq5 ) (fun q34 hq34 => ?_)
                            obtain ⟨eq34, xq34⟩ := hq34
                            rw [eq34]
                            exact Ok.ret ⟨jq5, trivial⟩
                          · have f51 := lit_13
                            refine Ok.eq (fun c52 => ?_) (fun c52 => ?_)
                            · exact Ok.ret ⟨jq5, trivial⟩
                            · have f53 := lit_14
                              refine Ok.eq (fun c54 => ?_) (fun c54 => ?_)
                              · refine Ok.bind (sa_X12_tuneBits (h0 := h0) s0 n q5  (by omega) jq5 ) (fun q38 hq38 => ?_)
                                obtain ⟨eq38, xq38⟩ := hq38
                                rw [eq38]
                                refine Ok.bind (sa_X12_bits (h0 := h0) s0 n q5 q38.1 (by omega) jq5 ) (fun q40 hq40 => ?_)
                                obtain ⟨eq40, xq40⟩ := hq40
                                rw [eq40]
                                exact Ok.ret ⟨jq5, trivial⟩
                              · have f55 := lit_15
                                refine Ok.eq (fun c56 => ?_) (fun c56 => ?_)
                                · refine Ok.bind (sa_X12_costsAll (h0 := h0) s0 n q5  (by omega) jq5 ) (fun q43 hq43 => ?_)
                                  obtain ⟨jq43, xq43⟩ := hq43
                                  exact Ok.ret ⟨jq43, trivial⟩
                                · have f57 := lit_16
                                  refine Ok.eq (fun c58 => ?_) (fun c58 => ?_)
                                  · refine Ok.bind (sa_X12_freeBits (h0 := h0) s0 n q5  (by omega) jq5 ) (fun q46 hq46 => ?_)
                                    obtain ⟨eq46, xq46⟩ := hq46
                                    rw [eq46]
                                    refine Ok.bind (sa_X12_tuneBits (h0 := h0) s0 n q5  (by omega) jq5 ) (fun q48 hq48 => ?_)
                                    obtain ⟨eq48, xq48⟩ := hq48
                                    rw [eq48]
                                    refine Ok.bind (sa_X12_goerBits (h0 := h0) s0 n q5  (by omega) jq5 ) (fun q50 hq50 => ?_)
                                    obtain ⟨eq50, xq50⟩ := hq50
                                    rw [eq50]
                                    exact Ok.ret ⟨jq5, trivial⟩
                                  · have f59 := lit_17
                                    refine Ok.eq (fun c60 => ?_) (fun c60 => ?_)
                                    · refine Ok.bind (sa_X12_bits (h0 := h0) s0 n q5 (hi q5 263 50) (by omega) jq5 ) (fun q53 hq53 => ?_)
                                      obtain ⟨eq53, xq53⟩ := hq53
                                      rw [eq53]
                                      exact Ok.ret ⟨jq5, trivial⟩
                                    · have f61 := lit_18
                                      refine Ok.eq (fun c62 => ?_) (fun c62 => ?_)
                                      · exact (sfW_X12_count_321 (h0 := h0) s0 n q5 x1 0 0 jq5 (by omega) (by omega) (by omega)).mono (fun q hq => ⟨by rw [hq.1]; exact jq5, trivial⟩)
                                      · have f63 := lit_19
                                        refine Ok.eq (fun c64 => ?_) (fun c64 => ?_)
                                        · have f65 := liR s0 jq5.ks
                                          have f66 := rgT (hi q5 226 18)
                                          refine Ok.chk (ixT (by omega) (by omega)) (fun c67 => ?_)
                                          exact Ok.ret ⟨jq5, trivial⟩
                                        · exact Ok.ret ⟨jq5, trivial⟩
set_option maxRecDepth 100000 in
set_option maxHeartbeats 4000000 in
theorem sfW_X12_together_24 {h0 : Hp} (s0 : rS h0) : ∀ (n : Nat), (∀ (h : Hp) (l1 : Int32) (l2 : Int32) (l3 : Int32), jA h0 h → 0 ≤ l1.toInt → l1.toInt < cnN h0 → 0 ≤ l2.toInt → l2.toInt < cnN h0 → (1 : Int) < n → (1 : Int) + (60 - l3.toInt) < n → Ok (W_X12_together n 24 h l1 l2 l3) (fun q => q.2 = h ∧ True)) := by
  have cn0 := cnR s0
  have gn0 := s0.2.2.2.1
  intro n
  induction n with
  | zero => intro h l1 l2 l3 j i0 i1 i2 i3 hB hM; exfalso; omega
  | succ n ih =>
    intro h l1 l2 l3 j i0 i1 i2 i3 hB hM
    rw [u_X12_together]
    refine Ok.pos rfl ?_
    have f1 := lit_60
    have f2 := rgT (l3)
    refine Ok.le (fun c3 => ?_) (fun c3 => ?_)
    · exact Ok.ret ⟨rfl, trivial⟩
    · have f4 := rgT (l1)
      have f5 := rgT (hi h 263 61)
      first | have f6 := adT (hi h 263 61) (l3) (by omega) (by omega) | have f6 := adT (hi h 263 61) (l3)
      have f7 := rgT ((hi h 263 61) + l3)
      refine Ok.bind (sa_X12_isLoud (h0 := h0) s0 n h l1 ((hi h 263 61) + l3) (by omega) j (by omega) (by omega)) (fun q2 hq2 => ?_)
      obtain ⟨eq2, xq2⟩ := hq2
      rw [eq2]
      have f8 := rgT (q2.1)
      have f9 := lit_0
      refine Ok.eq (fun c10 => ?_) (fun c10 => ?_)
      · have f11 := rgT (l2)
        have f12 := lit_1
        first | have f13 := adT (l3) (1) (by omega) (by omega) | have f13 := adT (l3) (1)
        have f14 := rgT (l3 + 1)
        exact ih h l1 l2 (l3 + 1) j (by omega) (by omega) (by omega) (by omega) (by omega) (by omega)
      · have f15 := rgT (l2)
        refine Ok.bind (sa_X12_isLoud (h0 := h0) s0 n h l2 ((hi h 263 61) + l3) (by omega) j (by omega) (by omega)) (fun q5 hq5 => ?_)
        obtain ⟨eq5, xq5⟩ := hq5
        rw [eq5]
        have f16 := rgT (q5.1)
        refine Ok.eq (fun c17 => ?_) (fun c17 => ?_)
        · have f18 := lit_1
          first | have f19 := adT (l3) (1) (by omega) (by omega) | have f19 := adT (l3) (1)
          have f20 := rgT (l3 + 1)
          exact ih h l1 l2 (l3 + 1) j (by omega) (by omega) (by omega) (by omega) (by omega) (by omega)
        · exact Ok.ret ⟨rfl, trivial⟩
set_option maxRecDepth 100000 in
set_option maxHeartbeats 4000000 in
theorem sf_X12_together {h0 : Hp} (s0 : rS h0) (n : Nat) (h : Hp) (x1 : Int32) (x2 : Int32) (hn : 17179869185 ≤ n) (j : jA h0 h) : Ok (F_X12_together n h x1 x2) (fun q => jA h0 q.2 ∧ True) := by
  unfold F_X12_together
  have cn0 := cnR s0
  have gn0 := s0.2.2.2.1
  have f1 := rgT (x1)
  refine Ok.bind (sa_X12_isCell (h0 := h0) s0 n h x1 (by omega) j ) (fun q8 hq8 => ?_)
  obtain ⟨eq8, xq8⟩ := hq8
  rw [eq8]
  have f2 := rgT (q8.1)
  have f3 := lit_0
  refine Ok.eq (fun c4 => ?_) (fun c4 => ?_)
  · exact Ok.ret ⟨j, trivial⟩
  · have f5 := rgT (x2)
    refine Ok.bind (sa_X12_isCell (h0 := h0) s0 n h x2 (by omega) j ) (fun q11 hq11 => ?_)
    obtain ⟨eq11, xq11⟩ := hq11
    rw [eq11]
    have f6 := rgT (q11.1)
    refine Ok.eq (fun c7 => ?_) (fun c7 => ?_)
    · exact Ok.ret ⟨j, trivial⟩
    · refine Ok.bind (sf_X12_copies (h0 := h0) s0 n h  (by omega) j ) (fun q14 hq14 => ?_)
      obtain ⟨jq14, xq14⟩ := hq14
      exact (sfW_X12_together_24 (h0 := h0) s0 n q14 x1 x2 0 jq14 (by omega) (by omega) (by omega) (by omega) (by omega) (by omega)).mono (fun q hq => ⟨by rw [hq.1]; exact jq14, trivial⟩)
set_option maxRecDepth 100000 in
set_option maxHeartbeats 4000000 in
theorem sf_X12_loud {h0 : Hp} (s0 : rS h0) (n : Nat) (h : Hp) (x1 : Int32) (hn : 17179869185 ≤ n) (j : jA h0 h) : Ok (F_X12_loud n h x1) (fun q => jA h0 q.2 ∧ True) := by
  unfold F_X12_loud
  have cn0 := cnR s0
  have gn0 := s0.2.2.2.1
  have f1 := rgT (x1)
  refine Ok.bind (sa_X12_isLong (h0 := h0) s0 n h x1 (by omega) j ) (fun q1 hq1 => ?_)
  obtain ⟨eq1, xq1⟩ := hq1
  rw [eq1]
  have f2 := rgT (q1.1)
  have f3 := lit_0
  refine Ok.eq (fun c4 => ?_) (fun c4 => ?_)
  · exact Ok.ret ⟨j, trivial⟩
  · refine Ok.bind (sf_X12_copies (h0 := h0) s0 n h  (by omega) j ) (fun q4 hq4 => ?_)
    obtain ⟨jq4, xq4⟩ := hq4
    refine Ok.bind (sa_X12_loudBits (h0 := h0) s0 n q4 ((hi q4 263 61) + x1) (by omega) jq4 ) (fun q6 hq6 => ?_)
    obtain ⟨eq6, xq6⟩ := hq6
    rw [eq6]
    exact Ok.ret ⟨jq4, trivial⟩
set_option maxRecDepth 100000 in
set_option maxHeartbeats 4000000 in
theorem sfW_X12_silence_26 {h0 : Hp} (s0 : rS h0) : ∀ (n : Nat), (∀ (h : Hp) (l1 : Int32) (l2 : Int32) (l3 : Int32) (l4 : Int32) (l5 : Int32), jA h0 h → (17179869185 : Int) < n → (17179869185 : Int) + (60 - l5.toInt) < n → Ok (W_X12_silence n 26 h l1 l2 l3 l4 l5) (fun q => q.2 = h ∧ True)) := by
  have cn0 := cnR s0
  have gn0 := s0.2.2.2.1
  intro n
  induction n with
  | zero => intro h l1 l2 l3 l4 l5 j hB hM; exfalso; omega
  | succ n ih =>
    intro h l1 l2 l3 l4 l5 j hB hM
    rw [u_X12_silence]
    refine Ok.pos rfl ?_
    have f1 := lit_60
    have f2 := rgT (l5)
    refine Ok.le (fun c3 => ?_) (fun c3 => ?_)
    · have f4 := rgT (l1)
      have f5 := lit_0
      refine Ok.eq (fun c6 => ?_) (fun c6 => ?_)
      · exact Ok.ret ⟨rfl, trivial⟩
      · exact Ok.ret ⟨rfl, trivial⟩
    · refine Ok.bind (sa_X12_loudBits (h0 := h0) s0 n h ((hi h 263 61) + l5) (by omega) j ) (fun q3 hq3 => ?_)
      obtain ⟨eq3, xq3⟩ := hq3
      rw [eq3]
      have f7 := rgT (q3.1)
      have f8 := lit_0
      refine Ok.eq (fun c9 => ?_) (fun c9 => ?_)
      · have f10 := rgT (l2)
        have f11 := rgT (l4)
        have f12 := lit_1
        first | have f13 := adT (l4) (1) (by omega) (by omega) | have f13 := adT (l4) (1)
        have f14 := rgT (l4 + 1)
        refine Ok.lt (fun c15 => ?_) (fun c15 => ?_)
        · first | have f16 := adT (l5) (1) (by omega) (by omega) | have f16 := adT (l5) (1)
          have f17 := rgT (l5 + 1)
          exact ih h l1 (l4 + 1) ((l5 - (l4 + 1)) + 1) (l4 + 1) (l5 + 1) j  (by omega) (by omega)
        · first | have f18 := adT (l5) (1) (by omega) (by omega) | have f18 := adT (l5) (1)
          have f19 := rgT (l5 + 1)
          exact ih h l1 l2 l3 (l4 + 1) (l5 + 1) j  (by omega) (by omega)
      · have f20 := rgT (l2)
        refine Ok.lt (fun c21 => ?_) (fun c21 => ?_)
        · have f22 := lit_1
          first | have f23 := adT (l5) (1) (by omega) (by omega) | have f23 := adT (l5) (1)
          have f24 := rgT (l5 + 1)
          exact ih h l1 0 ((l5 - 0) + 1) 0 (l5 + 1) j  (by omega) (by omega)
        · have f25 := lit_1
          first | have f26 := adT (l5) (1) (by omega) (by omega) | have f26 := adT (l5) (1)
          have f27 := rgT (l5 + 1)
          exact ih h l1 l2 l3 0 (l5 + 1) j  (by omega) (by omega)
set_option maxRecDepth 100000 in
set_option maxHeartbeats 4000000 in
theorem sf_X12_silence {h0 : Hp} (s0 : rS h0) (n : Nat) (h : Hp) (x1 : Int32) (hn : 34359738369 ≤ n) (j : jA h0 h) : Ok (F_X12_silence n h x1) (fun q => jA h0 q.2 ∧ True) := by
  unfold F_X12_silence
  have cn0 := cnR s0
  have gn0 := s0.2.2.2.1
  have f1 := rgT (x1)
  have f2 := lit_0
  have f3 := lit_1
  refine Ok.bind (sa_X12_in (h0 := h0) s0 n h x1 0 1 (by omega) j ) (fun q8 hq8 => ?_)
  obtain ⟨eq8, xq8⟩ := hq8
  rw [eq8]
  have f4 := rgT (q8.1)
  refine Ok.eq (fun c5 => ?_) (fun c5 => ?_)
  · exact Ok.ret ⟨j, trivial⟩
  · refine Ok.bind (sf_X12_copies (h0 := h0) s0 n h  (by omega) j ) (fun q11 hq11 => ?_)
    obtain ⟨jq11, xq11⟩ := hq11
    exact (sfW_X12_silence_26 (h0 := h0) s0 n q11 x1 0 (-2) 0 0 jq11  (by omega) (by omega)).mono (fun q hq => ⟨by rw [hq.1]; exact jq11, trivial⟩)
set_option maxRecDepth 100000 in
set_option maxHeartbeats 4000000 in
theorem sfW_X12_chorus_22 {h0 : Hp} (s0 : rS h0) : ∀ (n : Nat), (∀ (h : Hp) (l1 : Int32) (l2 : Int32) (l3 : Int32) (l4 : Int32), jA h0 h → (17179869185 : Int) < n → (17179869185 : Int) + (60 - l4.toInt) < n → Ok (W_X12_chorus n 22 h l1 l2 l3 l4) (fun q => q.2 = h ∧ True)) := by
  have cn0 := cnR s0
  have gn0 := s0.2.2.2.1
  intro n
  induction n with
  | zero => intro h l1 l2 l3 l4 j hB hM; exfalso; omega
  | succ n ih =>
    intro h l1 l2 l3 l4 j hB hM
    rw [u_X12_chorus]
    refine Ok.pos rfl ?_
    have f1 := lit_60
    have f2 := rgT (l4)
    refine Ok.le (fun c3 => ?_) (fun c3 => ?_)
    · have f4 := rgT (l1)
      have f5 := lit_0
      refine Ok.eq (fun c6 => ?_) (fun c6 => ?_)
      · exact Ok.ret ⟨rfl, trivial⟩
      · exact Ok.ret ⟨rfl, trivial⟩
    · refine Ok.bind (sa_X12_loudBits (h0 := h0) s0 n h ((hi h 263 61) + l4) (by omega) j ) (fun q3 hq3 => ?_)
      obtain ⟨eq3, xq3⟩ := hq3
      rw [eq3]
      refine Ok.bind (sa_X12_bits (h0 := h0) s0 n h q3.1 (by omega) j ) (fun q5 hq5 => ?_)
      obtain ⟨eq5, xq5⟩ := hq5
      rw [eq5]
      have f7 := rgT (l2)
      have f8 := rgT (q5.1)
      refine Ok.lt (fun c9 => ?_) (fun c9 => ?_)
      · have f10 := lit_1
        first | have f11 := adT (l4) (1) (by omega) (by omega) | have f11 := adT (l4) (1)
        have f12 := rgT (l4 + 1)
        exact ih h l1 q5.1 l4 (l4 + 1) j  (by omega) (by omega)
      · have f13 := lit_1
        first | have f14 := adT (l4) (1) (by omega) (by omega) | have f14 := adT (l4) (1)
        have f15 := rgT (l4 + 1)
        exact ih h l1 l2 l3 (l4 + 1) j  (by omega) (by omega)
set_option maxRecDepth 100000 in
set_option maxHeartbeats 4000000 in
theorem sf_X12_chorus {h0 : Hp} (s0 : rS h0) (n : Nat) (h : Hp) (x1 : Int32) (hn : 34359738369 ≤ n) (j : jA h0 h) : Ok (F_X12_chorus n h x1) (fun q => jA h0 q.2 ∧ True) := by
  unfold F_X12_chorus
  have cn0 := cnR s0
  have gn0 := s0.2.2.2.1
  have f1 := rgT (x1)
  have f2 := lit_0
  have f3 := lit_1
  refine Ok.bind (sa_X12_in (h0 := h0) s0 n h x1 0 1 (by omega) j ) (fun q8 hq8 => ?_)
  obtain ⟨eq8, xq8⟩ := hq8
  rw [eq8]
  have f4 := rgT (q8.1)
  refine Ok.eq (fun c5 => ?_) (fun c5 => ?_)
  · exact Ok.ret ⟨j, trivial⟩
  · refine Ok.bind (sf_X12_copies (h0 := h0) s0 n h  (by omega) j ) (fun q11 hq11 => ?_)
    obtain ⟨jq11, xq11⟩ := hq11
    exact (sfW_X12_chorus_22 (h0 := h0) s0 n q11 x1 (-1) 0 0 jq11  (by omega) (by omega)).mono (fun q hq => ⟨by rw [hq.1]; exact jq11, trivial⟩)
set_option maxRecDepth 100000 in
set_option maxHeartbeats 4000000 in
theorem sfW_X12_period_4 {h0 : Hp} (s0 : rS h0) : ∀ (n : Nat), (∀ (h : Hp) (l1 : Int32) (l2 : Int32), jA h0 h → 0 ≤ l2.toInt → (17179869184 : Int) < n → (17179869184 : Int) + (25 - l2.toInt) < n → Ok (W_X12_period n 4 h l1 l2) (fun q => q.2 = h ∧ True)) := by
  have cn0 := cnR s0
  have gn0 := s0.2.2.2.1
  intro n
  induction n with
  | zero => intro h l1 l2 j i0 hB hM; exfalso; omega
  | succ n ih =>
    intro h l1 l2 j i0 hB hM
    rw [u_X12_period]
    refine Ok.pos rfl ?_
    refine Ok.bind (sa_X12_cells (h0 := h0) s0 n h  (by omega) j ) (fun q1 hq1 => ?_)
    obtain ⟨eq1, xq1⟩ := hq1
    rw [eq1]
    have f1 := rgT (q1.1)
    have f2 := rgT (l2)
    refine Ok.le (fun c3 => ?_) (fun c3 => ?_)
    · exact Ok.ret ⟨rfl, trivial⟩
    · refine Ok.chk (ixT (by omega) (by omega)) (fun c4 => ?_)
      first | have f5 := nwR1 s0 j.ks l2 (by omega) (by omega) | have f5 := nwR1 s0 j.ks l2
      first | have f6 := nwR2 s0 j.ks l2 (by omega) (by omega) | have f6 := nwR2 s0 j.ks l2
      have f7 := rgT (hi h 262 (Int32.toNatClampNeg l2))
      have f8 := lit_0
      refine Ok.le (fun c9 => ?_) (fun c9 => ?_)
      · have f10 := lit_1
        first | have f11 := adT (l2) (1) (by omega) (by omega) | have f11 := adT (l2) (1)
        have f12 := rgT (l2 + 1)
        exact ih h l1 (l2 + 1) j (by omega) (by omega) (by omega)
      · refine Ok.pos c4 ?_
        have f13 := rgT (l1)
        refine Ok.bind (sa_X12_greatest (h0 := h0) s0 n h l1 (hi h 262 (Int32.toNatClampNeg l2)) (by omega) j (by omega)) (fun q7 hq7 => ?_)
        obtain ⟨eq7, xq7⟩ := hq7
        rw [eq7]
        have f14 := rgT (q7.1)
        refine Ok.div (by omega) ?_
        refine Ok.pos c4 ?_
        have f16 := lit_1
        first | have f17 := adT (l2) (1) (by omega) (by omega) | have f17 := adT (l2) (1)
        have f18 := rgT (l2 + 1)
        exact ih h ((l1 / q7.1) * (hi h 262 (Int32.toNatClampNeg l2))) (l2 + 1) j (by omega) (by omega) (by omega)
set_option maxRecDepth 100000 in
set_option maxHeartbeats 4000000 in
theorem sf_X12_period {h0 : Hp} (s0 : rS h0) (n : Nat) (h : Hp) (hn : 34359738368 ≤ n) (j : jA h0 h) : Ok (F_X12_period n h) (fun q => q.2 = h ∧ True) := by
  unfold F_X12_period
  have cn0 := cnR s0
  have gn0 := s0.2.2.2.1
  have f1 := lit_0
  exact sfW_X12_period_4 (h0 := h0) s0 n h 1 0 j (by omega) (by omega) (by omega)
set_option maxRecDepth 100000 in
set_option maxHeartbeats 4000000 in
theorem sfW_X12_leave_35 {h0 : Hp} (s0 : rS h0) : ∀ (n : Nat), (∀ (h : Hp) (l1 : Int32) (l2 : Int32) (l3 : Int32) (l4 : Int32) (l5 : Int32) (l6 : Int32), jA h0 h → (34359738369 : Int) < n → (34359738369 : Int) + (60 - l6.toInt) < n → Ok (W_X12_leave n 35 h l1 l2 l3 l4 l5 l6) (fun q => jA h0 q.2 ∧ True)) := by
  have cn0 := cnR s0
  have gn0 := s0.2.2.2.1
  intro n
  induction n with
  | zero => intro h l1 l2 l3 l4 l5 l6 j hB hM; exfalso; omega
  | succ n ih =>
    intro h l1 l2 l3 l4 l5 l6 j hB hM
    rw [u_X12_leave]
    refine Ok.pos rfl ?_
    have f1 := lit_60
    have f2 := rgT (l6)
    refine Ok.le (fun c3 => ?_) (fun c3 => ?_)
    · have f4 := rgT (l3)
      have f5 := lit_0
      refine Ok.eq (fun c6 => ?_) (fun c6 => ?_)
      · exact Ok.ret ⟨j, trivial⟩
      · exact Ok.ret ⟨j, trivial⟩
    · have f7 := rgT (l1)
      have f8 := rgT (hi h 263 61)
      first | have f9 := adT (hi h 263 61) (l6) (by omega) (by omega) | have f9 := adT (hi h 263 61) (l6)
      have f10 := rgT ((hi h 263 61) + l6)
      refine Ok.bind (sf_X12_fillsReach (h0 := h0) s0 n h 267 l1 ((hi h 263 61) + l6) (by omega) j (Or.inl rfl)) (fun q3 hq3 => ?_)
      obtain ⟨jq3, xq3⟩ := hq3
      have f11 := rgT (l2)
      have f12 := lit_100
      refine Ok.bind (sa_X12_firstAt (h0 := h0) s0 n q3 l2 100 (by omega) jq3 (by omega)) (fun q5 hq5 => ?_)
      obtain ⟨eq5, xq5⟩ := hq5
      rw [eq5]
      have f13 := rgT (q5.1)
      have f14 := lit_0
      refine Ok.lt (fun c15 => ?_) (fun c15 => ?_)
      · have f16 := lit_1
        first | have f17 := adT (l6) (1) (by omega) (by omega) | have f17 := adT (l6) (1)
        have f18 := rgT (l6 + 1)
        exact ih q3 l1 l2 l3 l4 l5 (l6 + 1) jq3  (by omega) (by omega)
      · have f19 := rgT (l4)
        refine Ok.lt (fun c20 => ?_) (fun c20 => ?_)
        · have f21 := lit_1
          first | have f22 := adT (l6) (1) (by omega) (by omega) | have f22 := adT (l6) (1)
          have f23 := rgT (l6 + 1)
          exact ih q3 l1 l2 l3 l6 q5.1 (l6 + 1) jq3  (by omega) (by omega)
        · have f24 := rgT (l5)
          refine Ok.lt (fun c25 => ?_) (fun c25 => ?_)
          · have f26 := lit_1
            first | have f27 := adT (l6) (1) (by omega) (by omega) | have f27 := adT (l6) (1)
            have f28 := rgT (l6 + 1)
            exact ih q3 l1 l2 l3 l6 q5.1 (l6 + 1) jq3  (by omega) (by omega)
          · have f29 := lit_1
            first | have f30 := adT (l6) (1) (by omega) (by omega) | have f30 := adT (l6) (1)
            have f31 := rgT (l6 + 1)
            exact ih q3 l1 l2 l3 l4 l5 (l6 + 1) jq3  (by omega) (by omega)
set_option maxRecDepth 100000 in
set_option maxHeartbeats 4000000 in
theorem sf_X12_leave {h0 : Hp} (s0 : rS h0) (n : Nat) (h : Hp) (x1 : Int32) (x2 : Int32) (x3 : Int32) (hn : 51539607553 ≤ n) (j : jA h0 h) : Ok (F_X12_leave n h x1 x2 x3) (fun q => jA h0 q.2 ∧ True) := by
  unfold F_X12_leave
  have cn0 := cnR s0
  have gn0 := s0.2.2.2.1
  have f1 := rgT (x1)
  have f2 := rgT (x2)
  refine Ok.bind (sa_X12_areFree (h0 := h0) s0 n h x1 x2 (by omega) j ) (fun q10 hq10 => ?_)
  obtain ⟨eq10, xq10⟩ := hq10
  rw [eq10]
  have f3 := rgT (q10.1)
  have f4 := lit_0
  refine Ok.eq (fun c5 => ?_) (fun c5 => ?_)
  · exact Ok.ret ⟨j, trivial⟩
  · have f6 := rgT (x3)
    have f7 := lit_1
    refine Ok.bind (sa_X12_in (h0 := h0) s0 n h x3 0 1 (by omega) j ) (fun q13 hq13 => ?_)
    obtain ⟨eq13, xq13⟩ := hq13
    rw [eq13]
    have f8 := rgT (q13.1)
    refine Ok.eq (fun c9 => ?_) (fun c9 => ?_)
    · exact Ok.ret ⟨j, trivial⟩
    · refine Ok.bind (sf_X12_copies (h0 := h0) s0 n h  (by omega) j ) (fun q16 hq16 => ?_)
      obtain ⟨jq16, xq16⟩ := hq16
      exact sfW_X12_leave_35 (h0 := h0) s0 n q16 x1 x2 x3 (-2) (-2) 0 jq16  (by omega) (by omega)
set_option maxRecDepth 100000 in
set_option maxHeartbeats 4000000 in
theorem sf_X12_mows {h0 : Hp} (s0 : rS h0) (n : Nat) (h : Hp) (x1 : Int32) (x2 : Int32) (x3 : Int32) (x4 : Int32) (hn : 68719476737 ≤ n) (j : jA h0 h) : Ok (F_X12_mows n h x1 x2 x3 x4) (fun q => jA h0 q.2 ∧ True) := by
  unfold F_X12_mows
  have cn0 := cnR s0
  have gn0 := s0.2.2.2.1
  have f1 := rgT (x1)
  have f2 := rgT (x2)
  refine Ok.bind (sa_X12_areFree (h0 := h0) s0 n h x1 x2 (by omega) j ) (fun q1 hq1 => ?_)
  obtain ⟨eq1, xq1⟩ := hq1
  rw [eq1]
  have f3 := rgT (q1.1)
  have f4 := lit_0
  refine Ok.eq (fun c5 => ?_) (fun c5 => ?_)
  · exact Ok.ret ⟨j, trivial⟩
  · have f6 := rgT (x3)
    refine Ok.bind (sa_X12_isLong (h0 := h0) s0 n h x3 (by omega) j ) (fun q4 hq4 => ?_)
    obtain ⟨eq4, xq4⟩ := hq4
    rw [eq4]
    have f7 := rgT (q4.1)
    refine Ok.eq (fun c8 => ?_) (fun c8 => ?_)
    · exact Ok.ret ⟨j, trivial⟩
    · have f9 := rgT (x4)
      have f10 := lit_1
      refine Ok.bind (sa_X12_in (h0 := h0) s0 n h x4 0 1 (by omega) j ) (fun q7 hq7 => ?_)
      obtain ⟨eq7, xq7⟩ := hq7
      rw [eq7]
      have f11 := rgT (q7.1)
      refine Ok.eq (fun c12 => ?_) (fun c12 => ?_)
      · exact Ok.ret ⟨j, trivial⟩
      · refine Ok.bind (sf_X12_fewestMown (h0 := h0) s0 n h x1 x2 x3 (by omega) j (by omega)) (fun q10 hq10 => ?_)
        obtain ⟨jq10, xq10⟩ := hq10
        have f13 := rgT (q10.1)
        refine Ok.lt (fun c14 => ?_) (fun c14 => ?_)
        · exact Ok.ret ⟨jq10, trivial⟩
        · refine Ok.eq (fun c15 => ?_) (fun c15 => ?_)
          · exact Ok.ret ⟨jq10, trivial⟩
          · refine Ok.bind (sa_X12_bits (h0 := h0) s0 n q10.2 q10.1 (by omega) jq10 ) (fun q14 hq14 => ?_)
            obtain ⟨eq14, xq14⟩ := hq14
            rw [eq14]
            exact Ok.ret ⟨jq10, trivial⟩
set_option maxRecDepth 100000 in
set_option maxHeartbeats 4000000 in
theorem sfW_X12_meet_82 {h0 : Hp} (s0 : rS h0) : ∀ (n : Nat), (∀ (h : Hp) (l1 : Int32) (l2 : Int32) (l3 : Int32) (l4 : Int32), jA h0 h → 0 ≤ l4.toInt → (40 : Int) < n → (40 : Int) + (101 - l4.toInt) < n → Ok (W_X12_meet n 82 h l1 l2 l3 l4) (fun q => q.2 = h ∧ True)) := by
  have cn0 := cnR s0
  have gn0 := s0.2.2.2.1
  intro n
  induction n with
  | zero => intro h l1 l2 l3 l4 j i0 hB hM; exfalso; omega
  | succ n ih =>
    intro h l1 l2 l3 l4 j i0 hB hM
    rw [u_X12_meet]
    refine Ok.pos rfl ?_
    have f1 := lit_100
    have f2 := rgT (l4)
    refine Ok.lt (fun c3 => ?_) (fun c3 => ?_)
    · exact Ok.ret ⟨rfl, trivial⟩
    · refine Ok.chk (ixT (by omega) (by omega)) (fun c4 => ?_)
      refine Ok.pos c4 ?_
      have f5 := rgT (hi h 267 (Int32.toNatClampNeg l4))
      first | have f6 := anL ((hi h 267 (Int32.toNatClampNeg l4)) : Int32) ((hi h 268 (Int32.toNatClampNeg l4)) : Int32) (by omega) | have f6 := anL ((hi h 267 (Int32.toNatClampNeg l4)) : Int32) ((hi h 268 (Int32.toNatClampNeg l4)) : Int32)
      have f7 := rgT (((hi h 267 (Int32.toNatClampNeg l4)) : Int32) &&& ((hi h 268 (Int32.toNatClampNeg l4)) : Int32))
      have f8 := lit_0
      refine Ok.eq (fun c9 => ?_) (fun c9 => ?_)
      · have f10 := lit_1
        first | have f11 := adT (l4) (1) (by omega) (by omega) | have f11 := adT (l4) (1)
        have f12 := rgT (l4 + 1)
        exact ih h l1 l2 l3 (l4 + 1) j (by omega) (by omega) (by omega)
      · have f13 := rgT (l3)
        refine Ok.eq (fun c14 => ?_) (fun c14 => ?_)
        · exact Ok.ret ⟨rfl, trivial⟩
        · refine Ok.pos c4 ?_
          refine Ok.pos c4 ?_
          refine Ok.bind (sf_X12_lowestOf (n := n) (h := h) (x := (((hi h 267 (Int32.toNatClampNeg l4)) : Int32) &&& ((hi h 268 (Int32.toNatClampNeg l4)) : Int32))) (by omega) (fun q => c9 (by rw [q]))) (fun q8 hq8 => ?_)
          obtain ⟨eq8, xq8⟩ := hq8
          rw [eq8]
          exact Ok.ret ⟨rfl, trivial⟩
set_option maxRecDepth 100000 in
set_option maxHeartbeats 4000000 in
theorem sf_X12_meet {h0 : Hp} (s0 : rS h0) (n : Nat) (h : Hp) (x1 : Int32) (x2 : Int32) (x3 : Int32) (hn : 34359738369 ≤ n) (j : jA h0 h) : Ok (F_X12_meet n h x1 x2 x3) (fun q => jA h0 q.2 ∧ True) := by
  unfold F_X12_meet
  have cn0 := cnR s0
  have gn0 := s0.2.2.2.1
  have f1 := rgT (x1)
  refine Ok.bind (sa_X12_isGoer (h0 := h0) s0 n h x1 (by omega) j ) (fun q10 hq10 => ?_)
  obtain ⟨eq10, xq10⟩ := hq10
  rw [eq10]
  have f2 := rgT (q10.1)
  have f3 := lit_0
  refine Ok.eq (fun c4 => ?_) (fun c4 => ?_)
  · exact Ok.ret ⟨j, trivial⟩
  · have f5 := rgT (x2)
    refine Ok.bind (sa_X12_isGoer (h0 := h0) s0 n h x2 (by omega) j ) (fun q13 hq13 => ?_)
    obtain ⟨eq13, xq13⟩ := hq13
    rw [eq13]
    have f6 := rgT (q13.1)
    refine Ok.eq (fun c7 => ?_) (fun c7 => ?_)
    · exact Ok.ret ⟨j, trivial⟩
    · have f8 := rgT (x3)
      have f9 := lit_1
      refine Ok.bind (sa_X12_in (h0 := h0) s0 n h x3 0 1 (by omega) j ) (fun q16 hq16 => ?_)
      obtain ⟨eq16, xq16⟩ := hq16
      rw [eq16]
      have f10 := rgT (q16.1)
      refine Ok.eq (fun c11 => ?_) (fun c11 => ?_)
      · exact Ok.ret ⟨j, trivial⟩
      · refine Ok.bind (sf_X12_copies (h0 := h0) s0 n h  (by omega) j ) (fun q19 hq19 => ?_)
        obtain ⟨jq19, xq19⟩ := hq19
        have f12 := lit_51
        first | have f13 := adT (51) (x1) (by omega) (by omega) | have f13 := adT (51) (x1)
        have f14 := rgT (51 + x1)
        refine Ok.chk (ixT (by omega) (by omega)) (fun c15 => ?_)
        first | have f16 := rwR1 jq19.rw (51 + x1) (by omega) (by omega) | have f16 := rwR1 jq19.rw (51 + x1)
        first | have f17 := rwR2 jq19.rw (51 + x1) (by omega) (by omega) | have f17 := rwR2 jq19.rw (51 + x1)
        have f18 := rgT (hi q19 263 (Int32.toNatClampNeg (51 + x1)))
        have f19 := rgT (hi q19 263 61)
        refine Ok.bind (sf_X12_fillsReach (h0 := h0) s0 n q19 267 (hi q19 263 (Int32.toNatClampNeg (51 + x1))) (hi q19 263 61) (by omega) jq19 (Or.inl rfl)) (fun q22 hq22 => ?_)
        obtain ⟨jq22, xq22⟩ := hq22
        first | have f20 := adT (51) (x2) (by omega) (by omega) | have f20 := adT (51) (x2)
        have f21 := rgT (51 + x2)
        refine Ok.chk (ixT (by omega) (by omega)) (fun c22 => ?_)
        first | have f23 := rwR1 jq22.rw (51 + x2) (by omega) (by omega) | have f23 := rwR1 jq22.rw (51 + x2)
        first | have f24 := rwR2 jq22.rw (51 + x2) (by omega) (by omega) | have f24 := rwR2 jq22.rw (51 + x2)
        have f25 := rgT (hi q22 263 (Int32.toNatClampNeg (51 + x2)))
        have f26 := rgT (hi q22 263 61)
        refine Ok.bind (sf_X12_fillsReach (h0 := h0) s0 n q22 268 (hi q22 263 (Int32.toNatClampNeg (51 + x2))) (hi q22 263 61) (by omega) jq22 (Or.inr rfl)) (fun q25 hq25 => ?_)
        obtain ⟨jq25, xq25⟩ := hq25
        exact (sfW_X12_meet_82 (h0 := h0) s0 n q25 x1 x2 x3 0 jq25 (by omega) (by omega) (by omega)).mono (fun q hq => ⟨by rw [hq.1]; exact jq25, trivial⟩)
set_option maxRecDepth 100000 in
set_option maxHeartbeats 4000000 in
theorem sf_X12_far {h0 : Hp} (s0 : rS h0) (n : Nat) (h : Hp) (x1 : Int32) (x2 : Int32) (hn : 17179869484 ≤ n) (j : jA h0 h) : Ok (F_X12_far n h x1 x2) (fun q => jA h0 q.2 ∧ True) := by
  unfold F_X12_far
  have cn0 := cnR s0
  have gn0 := s0.2.2.2.1
  have f1 := rgT (x1)
  refine Ok.bind (sa_X12_isCell (h0 := h0) s0 n h x1 (by omega) j ) (fun q1 hq1 => ?_)
  obtain ⟨eq1, xq1⟩ := hq1
  rw [eq1]
  have f2 := rgT (q1.1)
  have f3 := lit_0
  refine Ok.eq (fun c4 => ?_) (fun c4 => ?_)
  · exact Ok.ret ⟨j, trivial⟩
  · have f5 := rgT (x2)
    refine Ok.bind (sa_X12_isCell (h0 := h0) s0 n h x2 (by omega) j ) (fun q4 hq4 => ?_)
    obtain ⟨eq4, xq4⟩ := hq4
    rw [eq4]
    have f6 := rgT (q4.1)
    refine Ok.eq (fun c7 => ?_) (fun c7 => ?_)
    · exact Ok.ret ⟨j, trivial⟩
    · refine Ok.bind (sf_X12_copies (h0 := h0) s0 n h  (by omega) j ) (fun q7 hq7 => ?_)
      obtain ⟨jq7, xq7⟩ := hq7
      refine Ok.bind (sa_X12_farOf (h0 := h0) s0 n q7 x1 x2 (by omega) jq7 ) (fun q9 hq9 => ?_)
      obtain ⟨eq9, xq9⟩ := hq9
      rw [eq9]
      exact Ok.ret ⟨jq7, trivial⟩
set_option maxRecDepth 100000 in
set_option maxHeartbeats 4000000 in
theorem sfW_X12_centre_24 {h0 : Hp} (s0 : rS h0) : ∀ (n : Nat), (∀ (h : Hp) (l1 : Int32) (l2 : Int32) (l3 : Int32) (l4 : Int32), jA h0 h → 0 ≤ l4.toInt → (34359738668 : Int) < n → (34359738668 : Int) + (25 - l4.toInt) < n → Ok (W_X12_centre n 24 h l1 l2 l3 l4) (fun q => q.2 = h ∧ True)) := by
  have cn0 := cnR s0
  have gn0 := s0.2.2.2.1
  intro n
  induction n with
  | zero => intro h l1 l2 l3 l4 j i0 hB hM; exfalso; omega
  | succ n ih =>
    intro h l1 l2 l3 l4 j i0 hB hM
    rw [u_X12_centre]
    refine Ok.pos rfl ?_
    refine Ok.bind (sa_X12_cells (h0 := h0) s0 n h  (by omega) j ) (fun q1 hq1 => ?_)
    obtain ⟨eq1, xq1⟩ := hq1
    rw [eq1]
    have f1 := rgT (q1.1)
    have f2 := rgT (l4)
    refine Ok.le (fun c3 => ?_) (fun c3 => ?_)
    · have f4 := rgT (l1)
      have f5 := lit_0
      refine Ok.eq (fun c6 => ?_) (fun c6 => ?_)
      · exact Ok.ret ⟨rfl, trivial⟩
      · exact Ok.ret ⟨rfl, trivial⟩
    · refine Ok.bind (sa_X12_isRoped (h0 := h0) s0 n h l4 (by omega) j ) (fun q5 hq5 => ?_)
      obtain ⟨eq5, xq5⟩ := hq5
      rw [eq5]
      have f7 := rgT (q5.1)
      have f8 := lit_0
      refine Ok.eq (fun c9 => ?_) (fun c9 => ?_)
      · refine Ok.bind (sa_X12_farthestFrom (h0 := h0) s0 n h l4 (by omega) j ) (fun q8 hq8 => ?_)
        obtain ⟨eq8, xq8⟩ := hq8
        rw [eq8]
        have f10 := lit_25
        have f11 := rgT (q8.1)
        refine Ok.lt (fun c12 => ?_) (fun c12 => ?_)
        · have f13 := lit_1
          first | have f14 := adT (l4) (1) (by omega) (by omega) | have f14 := adT (l4) (1)
          have f15 := rgT (l4 + 1)
          exact ih h l1 l2 l3 (l4 + 1) j (by omega) (by omega) (by omega)
        · have f16 := rgT (l2)
          refine Ok.lt (fun c17 => ?_) (fun c17 => ?_)
          · have f18 := lit_1
            first | have f19 := adT (l4) (1) (by omega) (by omega) | have f19 := adT (l4) (1)
            have f20 := rgT (l4 + 1)
            exact ih h l1 l4 q8.1 (l4 + 1) j (by omega) (by omega) (by omega)
          · have f21 := rgT (l3)
            refine Ok.lt (fun c22 => ?_) (fun c22 => ?_)
            · have f23 := lit_1
              first | have f24 := adT (l4) (1) (by omega) (by omega) | have f24 := adT (l4) (1)
              have f25 := rgT (l4 + 1)
              exact ih h l1 l4 q8.1 (l4 + 1) j (by omega) (by omega) (by omega)
            · have f26 := lit_1
              first | have f27 := adT (l4) (1) (by omega) (by omega) | have f27 := adT (l4) (1)
              have f28 := rgT (l4 + 1)
              exact ih h l1 l2 l3 (l4 + 1) j (by omega) (by omega) (by omega)
      · have f29 := lit_25
        have f30 := lit_26
        refine Ok.lt (fun c31 => ?_) (fun c31 => ?_)
        · have f32 := lit_1
          first | have f33 := adT (l4) (1) (by omega) (by omega) | have f33 := adT (l4) (1)
          have f34 := rgT (l4 + 1)
          exact ih h l1 l2 l3 (l4 + 1) j (by omega) (by omega) (by omega)
        · have f35 := rgT (l2)
          refine Ok.lt (fun c36 => ?_) (fun c36 => ?_)
          · have f37 := lit_1
            first | have f38 := adT (l4) (1) (by omega) (by omega) | have f38 := adT (l4) (1)
            have f39 := rgT (l4 + 1)
            exact ih h l1 l4 26 (l4 + 1) j (by omega) (by omega) (by omega)
          · have f40 := rgT (l3)
            refine Ok.lt (fun c41 => ?_) (fun c41 => ?_)
            · have f42 := lit_1
              first | have f43 := adT (l4) (1) (by omega) (by omega) | have f43 := adT (l4) (1)
              have f44 := rgT (l4 + 1)
              exact ih h l1 l4 26 (l4 + 1) j (by omega) (by omega) (by omega)
            · have f45 := lit_1
              first | have f46 := adT (l4) (1) (by omega) (by omega) | have f46 := adT (l4) (1)
              have f47 := rgT (l4 + 1)
              exact ih h l1 l2 l3 (l4 + 1) j (by omega) (by omega) (by omega)
set_option maxRecDepth 100000 in
set_option maxHeartbeats 4000000 in
theorem sf_X12_centre {h0 : Hp} (s0 : rS h0) (n : Nat) (h : Hp) (x1 : Int32) (hn : 51539607852 ≤ n) (j : jA h0 h) : Ok (F_X12_centre n h x1) (fun q => jA h0 q.2 ∧ True) := by
  unfold F_X12_centre
  have cn0 := cnR s0
  have gn0 := s0.2.2.2.1
  have f1 := rgT (x1)
  have f2 := lit_0
  have f3 := lit_1
  refine Ok.bind (sa_X12_in (h0 := h0) s0 n h x1 0 1 (by omega) j ) (fun q16 hq16 => ?_)
  obtain ⟨eq16, xq16⟩ := hq16
  rw [eq16]
  have f4 := rgT (q16.1)
  refine Ok.eq (fun c5 => ?_) (fun c5 => ?_)
  · exact Ok.ret ⟨j, trivial⟩
  · refine Ok.bind (sf_X12_copies (h0 := h0) s0 n h  (by omega) j ) (fun q19 hq19 => ?_)
    obtain ⟨jq19, xq19⟩ := hq19
    exact (sfW_X12_centre_24 (h0 := h0) s0 n q19 x1 (-2) (-2) 0 jq19 (by omega) (by omega) (by omega)).mono (fun q hq => ⟨by rw [hq.1]; exact jq19, trivial⟩)
set_option maxRecDepth 100000 in
set_option maxHeartbeats 4000000 in
theorem sfW_X12_returns_16 {h0 : Hp} (s0 : rS h0) : ∀ (n : Nat), (∀ (h : Hp) (l1 : Int32) (l2 : Int32), jA h0 h → 0 ≤ l1.toInt → l1.toInt < 5 → (103079215105 : Int) < n → (103079215105 : Int) + (101 - l2.toInt) < n → Ok (W_X12_returns n 16 h l1 l2) (fun q => jA h0 q.2 ∧ True)) := by
  have cn0 := cnR s0
  have gn0 := s0.2.2.2.1
  intro n
  induction n with
  | zero => intro h l1 l2 j i0 i1 hB hM; exfalso; omega
  | succ n ih =>
    intro h l1 l2 j i0 i1 hB hM
    rw [u_X12_returns]
    refine Ok.pos rfl ?_
    have f1 := lit_100
    have f2 := rgT (l2)
    refine Ok.lt (fun c3 => ?_) (fun c3 => ?_)
    · exact Ok.ret ⟨j, trivial⟩
    · refine Ok.bind (sf_X12_beatGoes (h0 := h0) s0 n h  (by omega) j ) (fun q2 hq2 => ?_)
      obtain ⟨jq2, xq2⟩ := hq2
      have f4 := lit_51
      have f5 := rgT (l1)
      first | have f6 := adT (51) (l1) (by omega) (by omega) | have f6 := adT (51) (l1)
      have f7 := rgT (51 + l1)
      refine Ok.chk (ixT (by omega) (by omega)) (fun c8 => ?_)
      refine Ok.pos c8 ?_
      first | have f9 := rwR1 jq2.rw (51 + l1) (by omega) (by omega) | have f9 := rwR1 jq2.rw (51 + l1)
      first | have f10 := rwR2 jq2.rw (51 + l1) (by omega) (by omega) | have f10 := rwR2 jq2.rw (51 + l1)
      have f11 := rgT (hi q2 263 (Int32.toNatClampNeg (51 + l1)))
      first | have f12 := nwR1 s0 jq2.ks (51 + l1) (by omega) (by omega) | have f12 := nwR1 s0 jq2.ks (51 + l1)
      first | have f13 := nwR2 s0 jq2.ks (51 + l1) (by omega) (by omega) | have f13 := nwR2 s0 jq2.ks (51 + l1)
      have f14 := rgT (hi q2 262 (Int32.toNatClampNeg (51 + l1)))
      refine Ok.eq (fun c15 => ?_) (fun c15 => ?_)
      · exact Ok.ret ⟨jq2, trivial⟩
      · have f16 := lit_1
        first | have f17 := adT (l2) (1) (by omega) (by omega) | have f17 := adT (l2) (1)
        have f18 := rgT (l2 + 1)
        exact ih q2 l1 (l2 + 1) jq2 (by omega) (by omega) (by omega) (by omega)
set_option maxRecDepth 100000 in
set_option maxHeartbeats 4000000 in
theorem sf_X12_returns {h0 : Hp} (s0 : rS h0) (n : Nat) (h : Hp) (x1 : Int32) (hn : 120259084289 ≤ n) (j : jA h0 h) : Ok (F_X12_returns n h x1) (fun q => jA h0 q.2 ∧ True) := by
  unfold F_X12_returns
  have cn0 := cnR s0
  have gn0 := s0.2.2.2.1
  have f1 := rgT (x1)
  refine Ok.bind (sa_X12_isGoer (h0 := h0) s0 n h x1 (by omega) j ) (fun q7 hq7 => ?_)
  obtain ⟨eq7, xq7⟩ := hq7
  rw [eq7]
  have f2 := rgT (q7.1)
  have f3 := lit_0
  refine Ok.eq (fun c4 => ?_) (fun c4 => ?_)
  · exact Ok.ret ⟨j, trivial⟩
  · refine Ok.bind (sf_X12_copiesStill (h0 := h0) s0 n h  (by omega) j ) (fun q10 hq10 => ?_)
    obtain ⟨jq10, xq10⟩ := hq10
    have f5 := lit_1
    exact sfW_X12_returns_16 (h0 := h0) s0 n q10 x1 1 jq10 (by omega) (by omega) (by omega) (by omega)
set_option maxRecDepth 100000 in
set_option maxHeartbeats 4000000 in
theorem sfW_X12_never_31 {h0 : Hp} (s0 : rS h0) : ∀ (n : Nat), (∀ (h : Hp) (l1 : Int32) (l2 : Int32) (l3 : Int32), jA h0 h → (103079215105 : Int) < n → (103079215105 : Int) + (l1.toInt - l3.toInt) < n → Ok (W_X12_never n 31 h l1 l2 l3) (fun q => jA h0 q.2 ∧ True)) := by
  have cn0 := cnR s0
  have gn0 := s0.2.2.2.1
  intro n
  induction n with
  | zero => intro h l1 l2 l3 j hB hM; exfalso; omega
  | succ n ih =>
    intro h l1 l2 l3 j hB hM
    rw [u_X12_never]
    refine Ok.pos rfl ?_
    have f1 := rgT (l1)
    have f2 := rgT (l3)
    refine Ok.le (fun c3 => ?_) (fun c3 => ?_)
    · exact Ok.ret ⟨j, trivial⟩
    · refine Ok.bind (sf_X12_beatGoes (h0 := h0) s0 n h  (by omega) j ) (fun q2 hq2 => ?_)
      obtain ⟨jq2, xq2⟩ := hq2
      refine Ok.bind (sa_X12_goerBits (h0 := h0) s0 n q2  (by omega) jq2 ) (fun q4 hq4 => ?_)
      obtain ⟨eq4, xq4⟩ := hq4
      rw [eq4]
      have f4 := lit_1
      first | have f5 := adT (l3) (1) (by omega) (by omega) | have f5 := adT (l3) (1)
      have f6 := rgT (l3 + 1)
      exact ih q2 l1 ((l2 : Int32) &&& (((q4.1 : Int32) ^^^ ((-1) : Int32)) : Int32)) (l3 + 1) jq2  (by omega) (by omega)
set_option maxRecDepth 100000 in
set_option maxHeartbeats 4000000 in
theorem sf_X12_never {h0 : Hp} (s0 : rS h0) (n : Nat) (h : Hp) (x1 : Int32) (hn : 120259084289 ≤ n) (j : jA h0 h) : Ok (F_X12_never n h x1) (fun q => jA h0 q.2 ∧ True) := by
  unfold F_X12_never
  have cn0 := cnR s0
  have gn0 := s0.2.2.2.1
  have f1 := rgT (x1)
  refine Ok.bind (sa_X12_isLong (h0 := h0) s0 n h x1 (by omega) j ) (fun q6 hq6 => ?_)
  obtain ⟨eq6, xq6⟩ := hq6
  rw [eq6]
  have f2 := rgT (q6.1)
  have f3 := lit_0
  refine Ok.eq (fun c4 => ?_) (fun c4 => ?_)
  · exact Ok.ret ⟨j, trivial⟩
  · refine Ok.bind (sf_X12_copiesStill (h0 := h0) s0 n h  (by omega) j ) (fun q9 hq9 => ?_)
    obtain ⟨jq9, xq9⟩ := hq9
    refine Ok.bind (sa_X12_cells (h0 := h0) s0 n q9  (by omega) jq9 ) (fun q11 hq11 => ?_)
    obtain ⟨eq11, xq11⟩ := hq11
    rw [eq11]
    refine Ok.bind (sa_X12_goerBits (h0 := h0) s0 n q9  (by omega) jq9 ) (fun q13 hq13 => ?_)
    obtain ⟨eq13, xq13⟩ := hq13
    rw [eq13]
    exact sfW_X12_never_31 (h0 := h0) s0 n q9 x1 (((((1 : Int32) <<< ((q11.1 : Int32) &&& 31)) - 1) : Int32) &&& (((q13.1 : Int32) ^^^ ((-1) : Int32)) : Int32)) 0 jq9  (by omega) (by omega)
set_option maxRecDepth 100000 in
set_option maxHeartbeats 4000000 in
theorem sfW_X12_stood_35 {h0 : Hp} (s0 : rS h0) : ∀ (n : Nat), (∀ (h : Hp) (l1 : Int32) (l2 : Int32) (l3 : Int32) (l4 : Int32) (l5 : Int32), jA h0 h → 0 ≤ l1.toInt → l1.toInt < 5 → l3.toInt ≤ 100 → (103079215105 : Int) < n → (103079215105 : Int) + (101 - l5.toInt) < n → Ok (W_X12_stood n 35 h l1 l2 l3 l4 l5) (fun q => jA h0 q.2 ∧ True)) := by
  have cn0 := cnR s0
  have gn0 := s0.2.2.2.1
  intro n
  induction n with
  | zero => intro h l1 l2 l3 l4 l5 j i0 i1 i2 hB hM; exfalso; omega
  | succ n ih =>
    intro h l1 l2 l3 l4 l5 j i0 i1 i2 hB hM
    rw [u_X12_stood]
    refine Ok.pos rfl ?_
    have f1 := rgT (l3)
    have f2 := rgT (l5)
    refine Ok.lt (fun c3 => ?_) (fun c3 => ?_)
    · exact Ok.ret ⟨j, trivial⟩
    · have f4 := lit_51
      have f5 := rgT (l1)
      first | have f6 := adT (51) (l1) (by omega) (by omega) | have f6 := adT (51) (l1)
      have f7 := rgT (51 + l1)
      refine Ok.chk (ixT (by omega) (by omega)) (fun c8 => ?_)
      first | have f9 := rwR1 j.rw (51 + l1) (by omega) (by omega) | have f9 := rwR1 j.rw (51 + l1)
      first | have f10 := rwR2 j.rw (51 + l1) (by omega) (by omega) | have f10 := rwR2 j.rw (51 + l1)
      have f11 := rgT (hi h 263 (Int32.toNatClampNeg (51 + l1)))
      have f12 := rgT (l2)
      refine Ok.eq (fun c13 => ?_) (fun c13 => ?_)
      · refine Ok.bind (sf_X12_beatGoes (h0 := h0) s0 n h  (by omega) j ) (fun q6 hq6 => ?_)
        obtain ⟨jq6, xq6⟩ := hq6
        have f14 := lit_1
        first | have f15 := adT (l5) (1) (by omega) (by omega) | have f15 := adT (l5) (1)
        have f16 := rgT (l5 + 1)
        exact ih q6 l1 l2 l3 (l4 + 1) (l5 + 1) jq6 (by omega) (by omega) (by omega) (by omega) (by omega)
      · refine Ok.bind (sf_X12_beatGoes (h0 := h0) s0 n h  (by omega) j ) (fun q4 hq4 => ?_)
        obtain ⟨jq4, xq4⟩ := hq4
        have f17 := lit_1
        first | have f18 := adT (l5) (1) (by omega) (by omega) | have f18 := adT (l5) (1)
        have f19 := rgT (l5 + 1)
        exact ih q4 l1 l2 l3 l4 (l5 + 1) jq4 (by omega) (by omega) (by omega) (by omega) (by omega)
set_option maxRecDepth 100000 in
set_option maxHeartbeats 4000000 in
theorem sf_X12_stood {h0 : Hp} (s0 : rS h0) (n : Nat) (h : Hp) (x1 : Int32) (x2 : Int32) (x3 : Int32) (hn : 120259084289 ≤ n) (j : jA h0 h) : Ok (F_X12_stood n h x1 x2 x3) (fun q => jA h0 q.2 ∧ True) := by
  unfold F_X12_stood
  have cn0 := cnR s0
  have gn0 := s0.2.2.2.1
  have f1 := rgT (x1)
  refine Ok.bind (sa_X12_isGoer (h0 := h0) s0 n h x1 (by omega) j ) (fun q8 hq8 => ?_)
  obtain ⟨eq8, xq8⟩ := hq8
  rw [eq8]
  have f2 := rgT (q8.1)
  have f3 := lit_0
  refine Ok.eq (fun c4 => ?_) (fun c4 => ?_)
  · exact Ok.ret ⟨j, trivial⟩
  · have f5 := rgT (x2)
    refine Ok.bind (sa_X12_isCell (h0 := h0) s0 n h x2 (by omega) j ) (fun q11 hq11 => ?_)
    obtain ⟨eq11, xq11⟩ := hq11
    rw [eq11]
    have f6 := rgT (q11.1)
    refine Ok.eq (fun c7 => ?_) (fun c7 => ?_)
    · exact Ok.ret ⟨j, trivial⟩
    · have f8 := rgT (x3)
      refine Ok.bind (sa_X12_isLong (h0 := h0) s0 n h x3 (by omega) j ) (fun q14 hq14 => ?_)
      obtain ⟨eq14, xq14⟩ := hq14
      rw [eq14]
      have f9 := rgT (q14.1)
      refine Ok.eq (fun c10 => ?_) (fun c10 => ?_)
      · exact Ok.ret ⟨j, trivial⟩
      · refine Ok.bind (sf_X12_copiesStill (h0 := h0) s0 n h  (by omega) j ) (fun q17 hq17 => ?_)
        obtain ⟨jq17, xq17⟩ := hq17
        exact sfW_X12_stood_35 (h0 := h0) s0 n q17 x1 x2 x3 0 0 jq17 (by omega) (by omega) (by omega) (by omega) (by omega)
set_option maxRecDepth 100000 in
set_option maxHeartbeats 4000000 in
theorem sf_X12_then {h0 : Hp} (s0 : rS h0) (n : Nat) (h : Hp) (x1 : Int32) (x2 : Int32) (x3 : Int32) (hn : 120259084289 ≤ n) (j : jA h0 h) : Ok (F_X12_then n h x1 x2 x3) (fun q => jA h0 q.2 ∧ True) := by
  unfold F_X12_then
  have cn0 := cnR s0
  have gn0 := s0.2.2.2.1
  have f1 := rgT (x1)
  refine Ok.bind (sa_X12_isGoer (h0 := h0) s0 n h x1 (by omega) j ) (fun q1 hq1 => ?_)
  obtain ⟨eq1, xq1⟩ := hq1
  rw [eq1]
  have f2 := rgT (q1.1)
  have f3 := lit_0
  refine Ok.eq (fun c4 => ?_) (fun c4 => ?_)
  · exact Ok.ret ⟨j, trivial⟩
  · have f5 := rgT (x2)
    refine Ok.bind (sa_X12_isLong (h0 := h0) s0 n h x2 (by omega) j ) (fun q4 hq4 => ?_)
    obtain ⟨eq4, xq4⟩ := hq4
    rw [eq4]
    have f6 := rgT (q4.1)
    refine Ok.eq (fun c7 => ?_) (fun c7 => ?_)
    · exact Ok.ret ⟨j, trivial⟩
    · have f8 := rgT (x3)
      have f9 := lit_1
      refine Ok.bind (sa_X12_in (h0 := h0) s0 n h x3 0 1 (by omega) j ) (fun q7 hq7 => ?_)
      obtain ⟨eq7, xq7⟩ := hq7
      rw [eq7]
      have f10 := rgT (q7.1)
      refine Ok.eq (fun c11 => ?_) (fun c11 => ?_)
      · exact Ok.ret ⟨j, trivial⟩
      · refine Ok.bind (sf_X12_copies (h0 := h0) s0 n h  (by omega) j ) (fun q10 hq10 => ?_)
        obtain ⟨jq10, xq10⟩ := hq10
        refine Ok.bind (sf_X12_goes (h0 := h0) s0 n q10 x2 (by omega) jq10 ) (fun q12 hq12 => ?_)
        obtain ⟨jq12, xq12⟩ := hq12
        refine Ok.eq (fun c12 => ?_) (fun c12 => ?_)
        · have f13 := lit_51
          first | have f14 := adT (51) (x1) (by omega) (by omega) | have f14 := adT (51) (x1)
          have f15 := rgT (51 + x1)
          refine Ok.chk (ixT (by omega) (by omega)) (fun c16 => ?_)
          exact Ok.ret ⟨jq12, trivial⟩
        · have f17 := lit_56
          first | have f18 := adT (56) (x1) (by omega) (by omega) | have f18 := adT (56) (x1)
          have f19 := rgT (56 + x1)
          refine Ok.chk (ixT (by omega) (by omega)) (fun c20 => ?_)
          exact Ok.ret ⟨jq12, trivial⟩
set_option maxRecDepth 100000 in
set_option maxHeartbeats 4000000 in
theorem sf_X12_tunesIn {h0 : Hp} (s0 : rS h0) (n : Nat) (h : Hp) (x1 : Int32) (hn : 120259084289 ≤ n) (j : jA h0 h) : Ok (F_X12_tunesIn n h x1) (fun q => jA h0 q.2 ∧ True) := by
  unfold F_X12_tunesIn
  have cn0 := cnR s0
  have gn0 := s0.2.2.2.1
  have f1 := rgT (x1)
  refine Ok.bind (sa_X12_isLong (h0 := h0) s0 n h x1 (by omega) j ) (fun q1 hq1 => ?_)
  obtain ⟨eq1, xq1⟩ := hq1
  rw [eq1]
  have f2 := rgT (q1.1)
  have f3 := lit_0
  refine Ok.eq (fun c4 => ?_) (fun c4 => ?_)
  · exact Ok.ret ⟨j, trivial⟩
  · refine Ok.bind (sf_X12_copies (h0 := h0) s0 n h  (by omega) j ) (fun q4 hq4 => ?_)
    obtain ⟨jq4, xq4⟩ := hq4
    refine Ok.bind (sf_X12_goes (h0 := h0) s0 n q4 x1 (by omega) jq4 ) (fun q6 hq6 => ?_)
    obtain ⟨jq6, xq6⟩ := hq6
    refine Ok.bind (sa_X12_tuneBits (h0 := h0) s0 n q6  (by omega) jq6 ) (fun q8 hq8 => ?_)
    obtain ⟨eq8, xq8⟩ := hq8
    rw [eq8]
    exact Ok.ret ⟨jq6, trivial⟩
set_option maxRecDepth 100000 in
set_option maxHeartbeats 4000000 in
theorem sfW_X12_year_33 {h0 : Hp} (s0 : rS h0) : ∀ (n : Nat), (∀ (h : Hp) (l1 : Int32) (l2 : Int32) (l3 : Int32) (l4 : Int32) (l5 : Int32), jA h0 h → 0 ≤ l1.toInt → l1.toInt < cnN h0 → (120259084289 : Int) < n → (120259084289 : Int) + (l3.toInt - l5.toInt) < n → Ok (W_X12_year n 33 h l1 l2 l3 l4 l5) (fun q => jA h0 q.2 ∧ True)) := by
  have cn0 := cnR s0
  have gn0 := s0.2.2.2.1
  intro n
  induction n with
  | zero => intro h l1 l2 l3 l4 l5 j i0 i1 hB hM; exfalso; omega
  | succ n ih =>
    intro h l1 l2 l3 l4 l5 j i0 i1 hB hM
    rw [u_X12_year]
    refine Ok.pos rfl ?_
    have f1 := rgT (l3)
    have f2 := rgT (l5)
    refine Ok.le (fun c3 => ?_) (fun c3 => ?_)
    · exact Ok.ret ⟨j, trivial⟩
    · refine Ok.bind (sf_X12_copies (h0 := h0) s0 n h  (by omega) j ) (fun q2 hq2 => ?_)
      obtain ⟨jq2, xq2⟩ := hq2
      generalize eg4 : wrI q2 226 55 ((hi q2 226 55) + l5) = g4
      have jg4 : jA h0 g4 := JAw eg4 jq2 (by decide) (by decide) (by decide)
      refine Ok.bind (sf_X12_goes (h0 := h0) s0 n g4 l2 (by omega) jg4 ) (fun q4 hq4 => ?_)
      obtain ⟨jq4, xq4⟩ := hq4
      have f5 := rgT (l1)
      refine Ok.chk (ixT (by omega) (by omega)) (fun c6 => ?_)
      first | have f7 := rwR1 jq4.rw l1 (by omega) (by omega) | have f7 := rwR1 jq4.rw l1
      first | have f8 := rwR2 jq4.rw l1 (by omega) (by omega) | have f8 := rwR2 jq4.rw l1
      have f9 := rgT (hi q4 263 (Int32.toNatClampNeg l1))
      have f10 := lit_0
      refine Ok.le (fun c11 => ?_) (fun c11 => ?_)
      · have f12 := lit_1
        first | have f13 := adT (l5) (1) (by omega) (by omega) | have f13 := adT (l5) (1)
        have f14 := rgT (l5 + 1)
        exact ih q4 l1 l2 l3 l4 (l5 + 1) jq4 (by omega) (by omega) (by omega) (by omega)
      · have f15 := lit_1
        first | have f16 := adT (l5) (1) (by omega) (by omega) | have f16 := adT (l5) (1)
        have f17 := rgT (l5 + 1)
        exact ih q4 l1 l2 l3 (l4 + 1) (l5 + 1) jq4 (by omega) (by omega) (by omega) (by omega)
set_option maxRecDepth 100000 in
set_option maxHeartbeats 4000000 in
theorem sf_X12_year {h0 : Hp} (s0 : rS h0) (n : Nat) (h : Hp) (x1 : Int32) (x2 : Int32) (x3 : Int32) (hn : 137438953473 ≤ n) (j : jA h0 h) : Ok (F_X12_year n h x1 x2 x3) (fun q => jA h0 q.2 ∧ True) := by
  unfold F_X12_year
  have cn0 := cnR s0
  have gn0 := s0.2.2.2.1
  have f1 := rgT (x1)
  refine Ok.bind (sa_X12_isCell (h0 := h0) s0 n h x1 (by omega) j ) (fun q8 hq8 => ?_)
  obtain ⟨eq8, xq8⟩ := hq8
  rw [eq8]
  have f2 := rgT (q8.1)
  have f3 := lit_0
  refine Ok.eq (fun c4 => ?_) (fun c4 => ?_)
  · exact Ok.ret ⟨j, trivial⟩
  · have f5 := rgT (x2)
    refine Ok.bind (sa_X12_isLong (h0 := h0) s0 n h x2 (by omega) j ) (fun q11 hq11 => ?_)
    obtain ⟨eq11, xq11⟩ := hq11
    rw [eq11]
    have f6 := rgT (q11.1)
    refine Ok.eq (fun c7 => ?_) (fun c7 => ?_)
    · exact Ok.ret ⟨j, trivial⟩
    · have f8 := rgT (x3)
      have f9 := lit_1
      have f10 := lit_20
      refine Ok.bind (sa_X12_in (h0 := h0) s0 n h x3 1 20 (by omega) j ) (fun q14 hq14 => ?_)
      obtain ⟨eq14, xq14⟩ := hq14
      rw [eq14]
      have f11 := rgT (q14.1)
      refine Ok.eq (fun c12 => ?_) (fun c12 => ?_)
      · exact Ok.ret ⟨j, trivial⟩
      · exact sfW_X12_year_33 (h0 := h0) s0 n h x1 x2 x3 0 0 j (by omega) (by omega) (by omega) (by omega)
set_option maxRecDepth 100000 in
set_option maxHeartbeats 4000000 in
theorem sfG_X12_part_50 {h0 : Hp} (s0 : rS h0) : ∀ (n : Nat), (∀ (h : Hp) (l1 : Int32) (l2 : Int32) (l3 : Int32) (l4 : Int32) (l5 : Int32) (l6 : Int32), jA h0 h → 0 ≤ l1.toInt → l1.toInt < cnN h0 → bt (hi h 263 50) (Int32.toNatClampNeg l1) = false → 0 ≤ l4.toInt → l4.toInt ≤ 25 → (17179869184 : Int) < n → (17179869184 : Int) + (2000 * (26 - l4.toInt)) < n → Ok (W_X12_part n 50 h l1 l2 l3 l4 l5 l6) (fun q => q.2 = h ∧ True)) ∧ (∀ (h : Hp) (l1 : Int32) (l2 : Int32) (l3 : Int32) (l4 : Int32) (l5 : Int32) (l6 : Int32), jA h0 h → 0 ≤ l1.toInt → l1.toInt < cnN h0 → bt (hi h 263 50) (Int32.toNatClampNeg l1) = false → 0 ≤ l4.toInt → l4.toInt < 25 → l4.toInt ≠ l1.toInt → 0 ≤ l5.toInt → l5.toInt ≤ l4.toInt → (17179869184 : Int) < n → (17179869184 : Int) + (2000 * (26 - l4.toInt) - 1 - 50 * l5.toInt) < n → Ok (W_X12_part n 91 h l1 l2 l3 l4 l5 l6) (fun q => q.2 = h ∧ True)) ∧ (∀ (h : Hp) (l1 : Int32) (l2 : Int32) (l3 : Int32) (l4 : Int32) (l5 : Int32) (l6 : Int32), jA h0 h → 0 ≤ l1.toInt → l1.toInt < cnN h0 → bt (hi h 263 50) (Int32.toNatClampNeg l1) = false → 0 ≤ l4.toInt → l4.toInt < 25 → l4.toInt ≠ l1.toInt → 0 ≤ l5.toInt → l5.toInt < l4.toInt → l5.toInt ≠ l1.toInt → 0 ≤ l6.toInt → l6.toInt ≤ l5.toInt → (17179869184 : Int) < n → (17179869184 : Int) + (2000 * (26 - l4.toInt) - 2 - 50 * l5.toInt - l6.toInt) < n → Ok (W_X12_part n 140 h l1 l2 l3 l4 l5 l6) (fun q => q.2 = h ∧ True)) := by
  have cn0 := cnR s0
  have gn0 := s0.2.2.2.1
  intro n
  induction n with
  | zero => exact ⟨by intro h l1 l2 l3 l4 l5 l6 j i0 i1 i2 i3 i4 hB hM; exfalso; omega, by intro h l1 l2 l3 l4 l5 l6 j i0 i1 i2 i3 i4 i5 i6 i7 hB hM; exfalso; omega, by intro h l1 l2 l3 l4 l5 l6 j i0 i1 i2 i3 i4 i5 i6 i7 i8 i9 i10 hB hM; exfalso; omega⟩
  | succ n ih =>
    refine ⟨?_, ?_, ?_⟩
    · intro h l1 l2 l3 l4 l5 l6 j i0 i1 i2 i3 i4 hB hM
      rw [u_X12_part]
      refine Ok.pos rfl ?_
      refine Ok.bind (sa_X12_cells (h0 := h0) s0 n h  (by omega) j ) (fun q1 hq1 => ?_)
      obtain ⟨eq1, xq1⟩ := hq1
      rw [eq1]
      have f1 := rgT (q1.1)
      have f2 := rgT (l4)
      refine Ok.le (fun c3 => ?_) (fun c3 => ?_)
      · exact Ok.ret ⟨rfl, trivial⟩
      · have f4 := rgT (l1)
        have f5 := rgT (l2)
        refine Ok.bind (sa_X12_isOther (h0 := h0) s0 n h l4 l1 l2 (by omega) j ) (fun q4 hq4 => ?_)
        obtain ⟨eq4, xq4⟩ := hq4
        rw [eq4]
        have f6 := rgT (q4.1)
        have f7 := lit_0
        refine Ok.eq (fun c8 => ?_) (fun c8 => ?_)
        · have f9 := lit_1
          first | have f10 := adT (l4) (1) (by omega) (by omega) | have f10 := adT (l4) (1)
          have f11 := rgT (l4 + 1)
          exact ih.1 h l1 l2 l3 (l4 + 1) 0 0 j (by omega) (by omega) (by assumption) (by omega) (by omega) (by omega) (by omega)
        · have f12 := rgT ((1 : Int32) <<< ((l4 : Int32) &&& 31))
          refine Ok.bind (sa_X12_isParted (h0 := h0) s0 n h l1 l2 ((1 : Int32) <<< ((l4 : Int32) &&& 31)) (by omega) j (by omega) (by omega) (by assumption) (bN1 (by omega) (by omega) (by omega) (by omega))) (fun q7 hq7 => ?_)
          obtain ⟨eq7, xq7⟩ := hq7
          rw [eq7]
          have f13 := rgT (q7.1)
          refine Ok.eq (fun c14 => ?_) (fun c14 => ?_)
          · exact ih.2.1 h l1 l2 l3 l4 0 0 j (by omega) (by omega) (by assumption) (by omega) (by omega) (by omega) (by omega) (by omega) (by omega) (by omega)
          · exact Ok.ret ⟨rfl, trivial⟩
    · intro h l1 l2 l3 l4 l5 l6 j i0 i1 i2 i3 i4 i5 i6 i7 hB hM
      rw [u_X12_part]
      refine Ok.neg (by decide) ?_
      refine Ok.pos rfl ?_
      have f1 := rgT (l4)
      have f2 := rgT (l5)
      refine Ok.le (fun c3 => ?_) (fun c3 => ?_)
      · have f4 := rgT (l1)
        have f5 := lit_1
        first | have f6 := adT (l4) (1) (by omega) (by omega) | have f6 := adT (l4) (1)
        have f7 := rgT (l4 + 1)
        exact ih.1 h l1 l2 l3 (l4 + 1) 0 0 j (by omega) (by omega) (by assumption) (by omega) (by omega) (by omega) (by omega)
      · have f8 := rgT (l1)
        have f9 := rgT (l2)
        refine Ok.bind (sa_X12_isOther (h0 := h0) s0 n h l5 l1 l2 (by omega) j ) (fun q11 hq11 => ?_)
        obtain ⟨eq11, xq11⟩ := hq11
        rw [eq11]
        have f10 := rgT (q11.1)
        have f11 := lit_0
        refine Ok.eq (fun c12 => ?_) (fun c12 => ?_)
        · have f13 := lit_1
          first | have f14 := adT (l5) (1) (by omega) (by omega) | have f14 := adT (l5) (1)
          have f15 := rgT (l5 + 1)
          exact ih.2.1 h l1 l2 l3 l4 (l5 + 1) 0 j (by omega) (by omega) (by assumption) (by omega) (by omega) (by omega) (by omega) (by omega) (by omega) (by omega)
        · have f16 := rgT (l3)
          have f17 := lit_2
          refine Ok.le (fun c18 => ?_) (fun c18 => ?_)
          · exact ih.2.2 h l1 l2 l3 l4 l5 0 j (by omega) (by omega) (by assumption) (by omega) (by omega) (by omega) (by omega) (by omega) (by omega) (by omega) (by omega) (by omega) (by omega)
          · have f19 := rgT ((((1 : Int32) <<< ((l4 : Int32) &&& 31)) : Int32) ||| (((1 : Int32) <<< ((l5 : Int32) &&& 31)) : Int32))
            refine Ok.bind (sa_X12_isParted (h0 := h0) s0 n h l1 l2 ((((1 : Int32) <<< ((l4 : Int32) &&& 31)) : Int32) ||| (((1 : Int32) <<< ((l5 : Int32) &&& 31)) : Int32)) (by omega) j (by omega) (by omega) (by assumption) (bNo (bN1 (by omega) (by omega) (by omega) (by omega)) (bN1 (by omega) (by omega) (by omega) (by omega)))) (fun q15 hq15 => ?_)
            obtain ⟨eq15, xq15⟩ := hq15
            rw [eq15]
            have f20 := rgT (q15.1)
            refine Ok.eq (fun c21 => ?_) (fun c21 => ?_)
            · exact ih.2.2 h l1 l2 l3 l4 l5 0 j (by omega) (by omega) (by assumption) (by omega) (by omega) (by omega) (by omega) (by omega) (by omega) (by omega) (by omega) (by omega) (by omega)
            · exact ih.2.2 h l1 l2 2 l4 l5 0 j (by omega) (by omega) (by assumption) (by omega) (by omega) (by omega) (by omega) (by omega) (by omega) (by omega) (by omega) (by omega) (by omega)
    · intro h l1 l2 l3 l4 l5 l6 j i0 i1 i2 i3 i4 i5 i6 i7 i8 i9 i10 hB hM
      rw [u_X12_part]
      refine Ok.neg (by decide) ?_
      refine Ok.neg (by decide) ?_
      refine Ok.pos rfl ?_
      have f1 := rgT (l5)
      have f2 := rgT (l6)
      refine Ok.le (fun c3 => ?_) (fun c3 => ?_)
      · have f4 := rgT (l1)
        have f5 := rgT (l4)
        have f6 := lit_1
        first | have f7 := adT (l5) (1) (by omega) (by omega) | have f7 := adT (l5) (1)
        have f8 := rgT (l5 + 1)
        exact ih.2.1 h l1 l2 l3 l4 (l5 + 1) 0 j (by omega) (by omega) (by assumption) (by omega) (by omega) (by omega) (by omega) (by omega) (by omega) (by omega)
      · have f9 := rgT (l3)
        have f10 := lit_3
        refine Ok.le (fun c11 => ?_) (fun c11 => ?_)
        · have f12 := rgT (l1)
          have f13 := rgT (l4)
          have f14 := lit_1
          first | have f15 := adT (l5) (1) (by omega) (by omega) | have f15 := adT (l5) (1)
          have f16 := rgT (l5 + 1)
          exact ih.2.1 h l1 l2 l3 l4 (l5 + 1) 0 j (by omega) (by omega) (by assumption) (by omega) (by omega) (by omega) (by omega) (by omega) (by omega) (by omega)
        · have f17 := rgT (l1)
          have f18 := rgT (l2)
          refine Ok.bind (sa_X12_isOther (h0 := h0) s0 n h l6 l1 l2 (by omega) j ) (fun q20 hq20 => ?_)
          obtain ⟨eq20, xq20⟩ := hq20
          rw [eq20]
          have f19 := rgT (q20.1)
          have f20 := lit_0
          refine Ok.eq (fun c21 => ?_) (fun c21 => ?_)
          · have f22 := rgT (l4)
            have f23 := lit_1
            first | have f24 := adT (l6) (1) (by omega) (by omega) | have f24 := adT (l6) (1)
            have f25 := rgT (l6 + 1)
            exact ih.2.2 h l1 l2 l3 l4 l5 (l6 + 1) j (by omega) (by omega) (by assumption) (by omega) (by omega) (by omega) (by omega) (by omega) (by omega) (by omega) (by omega) (by omega) (by omega)
          · have f26 := rgT ((((((1 : Int32) <<< ((l4 : Int32) &&& 31)) : Int32) ||| (((1 : Int32) <<< ((l5 : Int32) &&& 31)) : Int32)) : Int32) ||| (((1 : Int32) <<< ((l6 : Int32) &&& 31)) : Int32))
            refine Ok.bind (sa_X12_isParted (h0 := h0) s0 n h l1 l2 ((((((1 : Int32) <<< ((l4 : Int32) &&& 31)) : Int32) ||| (((1 : Int32) <<< ((l5 : Int32) &&& 31)) : Int32)) : Int32) ||| (((1 : Int32) <<< ((l6 : Int32) &&& 31)) : Int32)) (by omega) j (by omega) (by omega) (by assumption) (bNo (bNo (bN1 (by omega) (by omega) (by omega) (by omega)) (bN1 (by omega) (by omega) (by omega) (by omega))) (bN1 (by omega) (by omega) (by omega) (by omega)))) (fun q23 hq23 => ?_)
            obtain ⟨eq23, xq23⟩ := hq23
            rw [eq23]
            have f27 := rgT (q23.1)
            refine Ok.eq (fun c28 => ?_) (fun c28 => ?_)
            · have f29 := rgT (l4)
              have f30 := lit_1
              first | have f31 := adT (l6) (1) (by omega) (by omega) | have f31 := adT (l6) (1)
              have f32 := rgT (l6 + 1)
              exact ih.2.2 h l1 l2 l3 l4 l5 (l6 + 1) j (by omega) (by omega) (by assumption) (by omega) (by omega) (by omega) (by omega) (by omega) (by omega) (by omega) (by omega) (by omega) (by omega)
            · have f33 := rgT (l4)
              have f34 := lit_1
              first | have f35 := adT (l6) (1) (by omega) (by omega) | have f35 := adT (l6) (1)
              have f36 := rgT (l6 + 1)
              exact ih.2.2 h l1 l2 3 l4 l5 (l6 + 1) j (by omega) (by omega) (by assumption) (by omega) (by omega) (by omega) (by omega) (by omega) (by omega) (by omega) (by omega) (by omega) (by omega)
theorem sfW_X12_part_50 {h0 : Hp} (s0 : rS h0) (n : Nat) : ∀ (h : Hp) (l1 : Int32) (l2 : Int32) (l3 : Int32) (l4 : Int32) (l5 : Int32) (l6 : Int32), jA h0 h → 0 ≤ l1.toInt → l1.toInt < cnN h0 → bt (hi h 263 50) (Int32.toNatClampNeg l1) = false → 0 ≤ l4.toInt → l4.toInt ≤ 25 → (17179869184 : Int) < n → (17179869184 : Int) + (2000 * (26 - l4.toInt)) < n → Ok (W_X12_part n 50 h l1 l2 l3 l4 l5 l6) (fun q => q.2 = h ∧ True) := (sfG_X12_part_50 (h0 := h0) s0 n).1
theorem sfW_X12_part_91 {h0 : Hp} (s0 : rS h0) (n : Nat) : ∀ (h : Hp) (l1 : Int32) (l2 : Int32) (l3 : Int32) (l4 : Int32) (l5 : Int32) (l6 : Int32), jA h0 h → 0 ≤ l1.toInt → l1.toInt < cnN h0 → bt (hi h 263 50) (Int32.toNatClampNeg l1) = false → 0 ≤ l4.toInt → l4.toInt < 25 → l4.toInt ≠ l1.toInt → 0 ≤ l5.toInt → l5.toInt ≤ l4.toInt → (17179869184 : Int) < n → (17179869184 : Int) + (2000 * (26 - l4.toInt) - 1 - 50 * l5.toInt) < n → Ok (W_X12_part n 91 h l1 l2 l3 l4 l5 l6) (fun q => q.2 = h ∧ True) := (sfG_X12_part_50 (h0 := h0) s0 n).2.1
theorem sfW_X12_part_140 {h0 : Hp} (s0 : rS h0) (n : Nat) : ∀ (h : Hp) (l1 : Int32) (l2 : Int32) (l3 : Int32) (l4 : Int32) (l5 : Int32) (l6 : Int32), jA h0 h → 0 ≤ l1.toInt → l1.toInt < cnN h0 → bt (hi h 263 50) (Int32.toNatClampNeg l1) = false → 0 ≤ l4.toInt → l4.toInt < 25 → l4.toInt ≠ l1.toInt → 0 ≤ l5.toInt → l5.toInt < l4.toInt → l5.toInt ≠ l1.toInt → 0 ≤ l6.toInt → l6.toInt ≤ l5.toInt → (17179869184 : Int) < n → (17179869184 : Int) + (2000 * (26 - l4.toInt) - 2 - 50 * l5.toInt - l6.toInt) < n → Ok (W_X12_part n 140 h l1 l2 l3 l4 l5 l6) (fun q => q.2 = h ∧ True) := (sfG_X12_part_50 (h0 := h0) s0 n).2.2
