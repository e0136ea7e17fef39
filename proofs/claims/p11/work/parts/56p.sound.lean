/-! TUNES SPREAD, in the class: a tune sounds from the left -/
/-- the lowest taken out of a set -/
theorem lo_clr {x : Int32} {i : Nat} (hi' : i < 32) (h1 : bt x i = true) (h2 : ∀ m, m < i → bt x m = false) (j : Nat) : bt (x &&& (x - 1)) j = (bt x j && !decide (j = i)) := by
  have ge : 2 ^ i ≤ bn x := Nat.ge_two_pow_of_testBit h1
  have p1 : 1 ≤ 2 ^ i := Nat.one_le_two_pow
  have e3 : bn (1 : Int32) = 1 := by decide
  have em : bn (x - 1) = bn x - 1 := by rw [bnM _ _ (by rw [e3]; omega), e3]
  have z : bn x % 2 ^ i = 0 := by
    refine Nat.eq_of_testBit_eq (fun m => ?_)
    rw [Nat.testBit_mod_two_pow, Nat.zero_testBit]
    by_cases y : m < i
    · have : Nat.testBit (bn x) m = false := h2 m y
      rw [this, Bool.and_false]
    · rw [decide_eq_false y, Bool.false_and]
  have od : bn x / 2 ^ i % 2 = 1 := by
    have : Nat.testBit (bn x) i = true := h1
    rw [Nat.testBit_eq_decide_div_mod_eq] at this
    exact of_decide_eq_true this
  obtain ⟨q, hq⟩ : ∃ q, bn x / 2 ^ i = 2 * q + 1 := ⟨bn x / 2 ^ i / 2, by omega⟩
  have eN : bn x = 2 ^ (i + 1) * q + 2 ^ i := by
    have d := Nat.div_add_mod (bn x) (2 ^ i)
    rw [z, hq, Nat.mul_add, ← Nat.mul_assoc, Nat.mul_one, ← Nat.pow_succ] at d
    have d' : 2 ^ (i + 1) * q + 2 ^ i + 0 = bn x := d
    omega
  have eM : bn (x - 1) = 2 ^ (i + 1) * q + (2 ^ i - 1) := by rw [em, eN]; omega
  have ps : 2 ^ i < 2 ^ (i + 1) := Nat.pow_lt_pow_right (by decide) (by omega)
  have a1 : bt x j = if j < i + 1 then decide (i = j) else Nat.testBit q (j - (i + 1)) := by
    rw [bt_tb, eN, Nat.testBit_two_pow_mul_add q ps j, Nat.testBit_two_pow]
  have a2 : bt (x - 1) j = if j < i + 1 then decide (j < i) else Nat.testBit q (j - (i + 1)) := by
    rw [bt_tb, eM, Nat.testBit_two_pow_mul_add q (by omega) j, Nat.testBit_two_pow_sub_one]
  rw [bt_and, a1, a2]
  by_cases y : j < i + 1
  · rw [if_pos y, if_pos y]
    by_cases w : j = i
    · rw [w, decide_eq_false (Nat.lt_irrefl i), decide_eq_true (show i = i from rfl)]
      rfl
    · rw [decide_eq_false (show ¬ i = j by omega), Bool.false_and, Bool.false_and]
  · rw [if_neg y, if_neg y, decide_eq_false (show ¬ j = i by omega), Bool.not_false, Bool.and_true, Bool.and_self]
section R56P
variable {c G : Nat} {f : Nat → Int32} {a : Nat} {h : Hp} {n : Nat} {x1 x2 x3 : Int32}
theorem SCR.so (x : SCR c G f a h) (c25 : c ≤ 25) (G5 : G ≤ 5) {b : Nat} (hb : b < c) (hx : x1.toInt = (b : Int)) (y2 : 2 ≤ x2.toInt ∧ x2.toInt ≤ 6) (z2 : 0 ≤ x3.toInt ∧ x3.toInt < x2.toInt) : Pc (F_X8_soundIn n h a x1 x2 x3) (SCR c G (upF (upF f b x2) (25 + b) x3) a) := by
  have f0 := lit_0
  have f25 := lit_25
  have f8 := lit_8
  obtain ⟨w1, w2, w3, w4⟩ := x
  have n1 := ncT (show 0 ≤ x1.toInt by omega)
  have n2 : Int32.toNatClampNeg x1 = b := by omega
  have m := mlT 8 x2 8 f8 (by omega) (by omega)
  have ad := adT (8 * x2) x3 (by omega) (by omega)
  unfold F_X8_soundIn
  rw [n2]
  refine Pc.lt (fun q => by exfalso; omega) (fun _ => Pc.le (fun q => by exfalso; omega) (fun _ => Pc.chk (fun _ => Pc.ret ?_)))
  have e3 (v : Int32) : hi (wrI h (a + 1) b v) a 3 = hi h a 3 := hiA rfl a 3 (by omega)
  rw [e3]
  obtain ⟨u1, u2, u3⟩ := w1
  refine ⟨⟨?_, ?_, ?_⟩, fun i hi' => ?_, fun i hi' => ?_, fun k hk => ?_⟩
  · rw [hi_wrI, if_neg (by omega), hi_wrI, if_neg (by omega), upF_n (by omega), upF_n (by omega)]; exact u1
  · rw [hi_wrI, if_neg (by omega), hi_wrI, if_neg (by omega), upF_n (by omega), upF_n (by omega)]; exact u2
  · rw [hi_wrI, if_neg (by omega), hi_wrI, if_neg (by omega), upF_n (by omega), upF_n (by omega)]; exact u3
  · rw [hi_wrI, if_pos ⟨rfl, rfl⟩, bt_or, btL (by omega) (by omega) i, n2, Bool.or_eq_true, w2 i hi', decide_eq_true_eq]
    by_cases e : i = b
    · rw [e, upF_n (show b ≠ 25 + b by omega), upF_e]
      exact ⟨fun _ => ⟨hb, by omega⟩, fun _ => Or.inr rfl⟩
    · refine ⟨fun q => ?_, fun q => Or.inl ⟨q.1, ?_⟩⟩
      · rcases q with q | q
        · rw [upF_n (by omega), upF_n e]; exact q
        · exact absurd q e
      · have := q.2
        rw [upF_n (by have := q.1; omega), upF_n e] at this
        exact this
  · rw [hi_wrI, if_neg (by omega), hi_wrI]
    by_cases e : i = b
    · rw [if_pos ⟨rfl, e⟩, e, upF_n (show b ≠ 25 + b by omega), upF_e, upF_e, byN (by omega) (by omega), ad, m]
      exact fun _ => rfl
    · rw [if_neg (fun q => e q.2), upF_n (show i ≠ 25 + b by omega), upF_n e, upF_n (show 25 + i ≠ 25 + b by omega), upF_n (show 25 + i ≠ b by omega)]
      exact w3 i hi'
  · rw [hi_wrI, if_neg (by omega), hi_wrI, if_neg (by omega), hi_wrI, if_neg (by omega), hi_wrI, if_neg (by omega), upF_n (by omega), upF_n (by omega), upF_n (by omega), upF_n (by omega)]; exact w4 k hk
/-- a cell takes over the tune on its left -/
theorem sl_c (sc : SCR c G f a h) (rv : RVR c G f) (c25 : c ≤ 25) (G5 : G ≤ 5) {b : Nat} (hb : b + 1 < c) (pos : 0 < (f b).toInt) (hx : x1.toInt = ((b + 1 : Nat) : Int)) : Pc (F_X8_soundFromTheLeft n h a x1) (SCR c G (upF (upF f (b + 1) (f b)) (25 + (b + 1)) (offF f b)) a) := by
  have f0 := lit_0
  have f1 := lit_1
  obtain ⟨-, -, r3⟩ := rv.1 b (by omega)
  have r4 := r3 pos
  have s1 := sbT x1 1 (by omega) (by omega)
  have ex : (x1 - 1).toInt = (b : Int) := by omega
  unfold F_X8_soundFromTheLeft
  refine Pc.bind (be_c sc rv (b := b) (by omega) ex) (fun q1 h1 => ?_)
  obtain ⟨t1, t2⟩ := h1
  rw [t1, t2]
  refine Pc.le (fun z => by exfalso; omega) (fun _ => ?_)
  refine Pc.bind (of_c sc rv (b := b) (by omega) c25 pos ex) (fun q4 h4 => Pc.ite (fun _ => Pc.no) (fun _ => ?_))
  obtain ⟨t3, t4⟩ := h4
  rw [t3, t4]
  have a1 := adT (f (25 + b)) 1 (by omega) (by omega)
  have rg := rmG (f (25 + b) + 1) (f b) (by omega) pos
  exact Pc.bind (sc.so c25 G5 (b := b + 1) hb hx r4.1 rg) (fun q7 h7 => Pc.ret h7)
end R56P
