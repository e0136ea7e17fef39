/-! the reference asked: by hand -/
theorem JAb {h0 h h1 : Hp} {a k : Nat} {v : Int32} (p : a = 267 ∨ a = 268) (e : wrI h a k v = h1) (j : jA h0 h) : jA h0 h1 := by
  rcases p with rfl | rfl
  · exact JAw e j rfl (by decide) (by decide)
  · exact JAw e j rfl (by decide) (by decide)
theorem sf_copy {h0 : Hp} (s0 : rS h0) : ∀ n : Nat, ∀ (h : Hp) (l1 : Int32), kS h0 h → (∀ a k, hl h a k = hl h0 a k) → (∀ k, -1 ≤ (hi h 265 k).toInt ∧ (hi h 265 k).toInt < 25) → 0 ≤ l1.toInt → (∀ k : Nat, (k : Int) < l1.toInt → hi h 263 k = hi h0 262 k) → (1 : Int) < n → (1 : Int) + (63 - l1.toInt) < n → Ok (W_X12_copies n 2 h l1) (fun q => jA h0 q ∧ ∀ k, k < 63 → hi q 263 k = hi h0 262 k) := by
  intro n
  induction n with
  | zero => intro h l1 a b c d e f g; exfalso; omega
  | succ n ih =>
    intro h l1 a b c d e f g
    have f1 := ncT d
    have f63 := lit_63
    rw [u_X12_copies]
    refine Ok.pos rfl ?_
    refine Ok.le (fun c1 => ?_) (fun c1 => ?_)
    · have f2 := liR s0 a
      refine Ok.chk (ixT (by omega) (by omega)) (fun c2 => ?_)
      have w (k : Nat) (hk : k < 63) : hi h 263 k = hi h0 262 k := e k (by omega)
      have j : jA h0 h := by
        refine ⟨a, b, ⟨fun k hk => ?_, fun k h1 h2 => ?_⟩, fun k hk h1 => ?_, c⟩
        · rw [w k (by omega)]; exact s0.2.2.2.2.2.2.1.1 k hk
        · rw [w k (by omega)]; exact s0.2.2.2.2.2.2.1.2 k h1 h2
        · rw [w k (by omega)] at h1 ⊢
          rw [w (25 + k) (by omega)]
          exact s0.2.2.2.2.2.2.2.1 k hk h1
      refine Ok.ret ⟨JAw rfl (JAw rfl j (by decide) (by decide) (by decide)) (by decide) (by decide) (by decide), fun k hk => ?_⟩
      rw [hi_wrI, if_neg (fun z => absurd z.1 (by decide)), hi_wrI, if_neg (fun z => absurd z.1 (by decide))]
      exact w k hk
    · refine Ok.chk (ixT (by omega) (by omega)) (fun c2 => ?_)
      refine Ok.pos c2 ?_
      have f2 := adT l1 1
      have f3 := lit_1
      refine ih _ (l1 + 1) (fun a' k' q => ?_) (fun a' k' => b a' k') (fun k' => ?_) (by omega) (fun k' hk => ?_) (by omega) (by omega)
      · rw [hi_wrI, if_neg (fun z => by rw [z.1] at q; cases q)]
        exact a a' k' q
      · rw [hi_wrI, if_neg (fun z => absurd z.1 (by decide))]
        exact c k'
      · rw [hi_wrI]
        by_cases q : k' = Int32.toNatClampNeg l1
        · rw [if_pos ⟨rfl, q⟩, q]
          exact a 262 _ rfl
        · rw [if_neg (fun z => q z.2)]
          exact e k' (by omega)
theorem sf_X12_copies {h0 : Hp} (s0 : rS h0) (n : Nat) (h : Hp) (hn : 100 ≤ n) (j : jA h0 h) : Ok (F_X12_copies n h) (fun q => jA h0 q ∧ ∀ k, k < 63 → hi q 263 k = hi h0 262 k) := by
  have f1 := lit_0
  unfold F_X12_copies
  exact sf_copy s0 n h 0 j.1 j.2.1 j.2.2.2.2 (by omega) (fun k hk => by omega) (by omega) (by omega)
/-! Euclid -/
theorem sf_gcd : ∀ n : Nat, ∀ (h : Hp) (l0 l1 l2 l3 : Int32), (l2.toInt ≠ 0 ∨ l3.toInt ≠ 0) → 1 + l3.toInt.natAbs < n → Ok (W_X12_greatest n 4 h l0 l1 l2 l3) (fun q => q.2 = h ∧ q.1.toInt ≠ 0) := by
  intro n
  induction n with
  | zero => intro h l0 l1 l2 l3 a b; exfalso; omega
  | succ n ih =>
    intro h l0 l1 l2 l3 a b
    have f1 := lit_0
    rw [u_X12_greatest]
    refine Ok.pos rfl ?_
    refine Ok.eq (fun c1 => ?_) (fun c1 => ?_)
    · refine Ok.ret ⟨rfl, ?_⟩
      show l2.toInt ≠ 0
      omega
    · refine Ok.div (by omega) ?_
      have f2 := rmA l2 l3
      have f3 := Int.natAbs_tmod l2.toInt l3.toInt
      have f4 := Nat.mod_lt l2.toInt.natAbs (show 0 < l3.toInt.natAbs by omega)
      exact ih h l0 l1 l3 _ (Or.inl (by omega)) (by omega)
theorem sa_X12_greatest {h0 : Hp} (s0 : rS h0) (n : Nat) (h : Hp) (x1 x2 : Int32) (hn : 17179869184 ≤ n) (j : jA h0 h) (p0 : x2.toInt ≠ 0) : Ok (F_X12_greatest n h x1 x2) (fun q => q.2 = h ∧ q.1.toInt ≠ 0) := by
  have f1 := rgT x2
  unfold F_X12_greatest
  exact sf_gcd n h x1 x2 x1 x2 (Or.inr p0) (by omega)
/-! NEXT -/
theorem sf_loud {n : Nat} {h : Hp} {x1 x2 : Int32} (h1 : 0 ≤ x1.toInt) (h2 : x1.toInt < 25) (h3 : 0 < (hi h 263 (Int32.toNatClampNeg x1)).toInt) : Ok (F_X12_isLoud n h x1 x2) (fun q => q.2 = h ∧ (q.1.toInt = 0 → ¬ x2.toInt.tmod (hi h 263 (Int32.toNatClampNeg x1)).toInt = (hi h 263 (25 + Int32.toNatClampNeg x1)).toInt)) := by
  have f1 := lit_25
  have f2 := adT 25 x1
  have f0 := lit_0
  have f3 := ncT h1
  have f4 := ncT (show 0 ≤ (25 + x1 : Int32).toInt by omega)
  have f5 : Int32.toNatClampNeg (25 + x1) = 25 + Int32.toNatClampNeg x1 := by omega
  unfold F_X12_isLoud
  refine Ok.chk (ixT (by omega) (by omega)) (fun c1 => ?_)
  refine Ok.le (fun c2 => ?_) (fun c2 => ?_)
  · exfalso; omega
  · refine Ok.pos c1 ?_
    refine Ok.div (by omega) ?_
    refine Ok.chk (ixT (by omega) (by omega)) (fun c3 => ?_)
    refine Ok.eq (fun c4 => ?_) (fun c4 => ?_)
    · refine Ok.ret ⟨rfl, fun q => ?_⟩
      exact absurd q (show ¬ (1 : Int32).toInt = 0 by decide)
    · refine Ok.ret ⟨rfl, fun q => ?_⟩
      rw [rmA, f5] at c4
      exact c4
theorem u32_step (d : Int32) (h : d ≠ 0) : (d - 1).toBitVec.toNat + 1 = d.toBitVec.toNat := by
  have h1 : d.toBitVec.toNat ≠ 0 := fun q => h (Int32.toBitVec_inj.mp (BitVec.eq_of_toNat_eq (q.trans (by decide))))
  have h2 := d.toBitVec.isLt
  rw [Int32.toBitVec_sub, BitVec.toNat_sub, show (Int32.toBitVec 1).toNat = 1 by decide]
  omega
theorem sf_next {h : Hp} {x1 : Int32} (h1 : 0 ≤ x1.toInt) (h2 : x1.toInt < 25) (h3 : 0 < (hi h 263 (Int32.toNatClampNeg x1)).toInt) (h4 : 0 ≤ (hi h 263 (25 + Int32.toNatClampNeg x1)).toInt) (h5 : (hi h 263 (25 + Int32.toNatClampNeg x1)).toInt < (hi h 263 (Int32.toNatClampNeg x1)).toInt) : ∀ n : Nat, ∀ l2 : Int32, 2 + (hi h 263 (25 + Int32.toNatClampNeg x1) - hi h 263 61 - l2).toBitVec.toNat < n → Ok (W_X12_next n 28 h x1 l2) (fun q => q.2 = h ∧ True) := by
  intro n
  induction n with
  | zero => intro l2 a; exfalso; omega
  | succ n ih =>
    intro l2 a
    rw [u_X12_next]
    refine Ok.pos rfl ?_
    refine Ok.bind (sf_loud h1 h2 h3) (fun q1 hq1 => ?_)
    obtain ⟨e1, x1'⟩ := hq1
    rw [e1]
    have f0 := lit_0
    refine Ok.eq (fun c1 => ?_) (fun c1 => Ok.ret ⟨rfl, trivial⟩)
    have c2 := x1' (by omega)
    have c3 : hi h 263 (25 + Int32.toNatClampNeg x1) - hi h 263 61 - l2 ≠ 0 := by
      intro q
      apply c2
      have q2 : hi h 263 61 + l2 = hi h 263 (25 + Int32.toNatClampNeg x1) := by
        have q3 := Int32.sub_eq_iff_eq_add.mp q
        have q4 := Int32.sub_eq_iff_eq_add.mp q3
        rw [q4, Int32.zero_add, Int32.add_comm]
      rw [q2]
      exact Int.tmod_eq_of_lt h4 h5
    have c4 := u32_step _ c3
    refine ih (l2 + 1) ?_
    rw [← Int32.sub_sub (hi h 263 (25 + Int32.toNatClampNeg x1) - hi h 263 61) l2 1]
    omega
theorem sf_X12_next {h0 : Hp} (s0 : rS h0) (n : Nat) (h : Hp) (x1 : Int32) (hn : 17179869185 ≤ n) (j : jA h0 h) : Ok (F_X12_next n h x1) (fun q => jA h0 q.2 ∧ True) := by
  have f0 := cnR s0
  have f1 := lit_0
  unfold F_X12_next
  refine Ok.bind (sa_X12_isCell s0 n h x1 (by omega) j) (fun q4 hq4 => ?_)
  obtain ⟨e4, x4⟩ := hq4
  rw [e4]
  refine Ok.eq (fun c1 => Ok.ret ⟨j, trivial⟩) (fun c1 => ?_)
  have c2 := x4.2.2 (by omega)
  have f2 := ncT c2.1
  refine Ok.chk (ixT (by omega) (by omega)) (fun c3 => ?_)
  have k1 : hi h 262 = hi h0 262 := j.1.at 262 (fun _ => rfl)
  rw [k1]
  refine Ok.eq (fun c4 => Ok.ret ⟨j, trivial⟩) (fun c4 => ?_)
  refine Ok.bind (sf_X12_copies s0 n h (by omega) j) (fun q9 hq9 => ?_)
  obtain ⟨j9, x9⟩ := hq9
  have k2 := s0.2.2.2.2.2.2.1.1 (Int32.toNatClampNeg x1) (by omega)
  have k3 := s0.2.2.2.2.2.2.2.1 (Int32.toNatClampNeg x1) (by omega) (by omega)
  have k4 := x9 (Int32.toNatClampNeg x1) (by omega)
  have k5 := x9 (25 + Int32.toNatClampNeg x1) (by omega)
  have k6 := (hi q9 263 (25 + Int32.toNatClampNeg x1) - hi q9 263 61 - 1).toBitVec.isLt
  refine (sf_next (h := q9) (x1 := x1) c2.1 (by omega) (by rw [k4]; omega) (by rw [k5]; omega) (by rw [k4, k5]; omega) n 1 (by omega)).mono (fun q hq => ⟨?_, trivial⟩)
  rw [hq.1]
  exact j9
