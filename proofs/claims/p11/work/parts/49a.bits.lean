/-! HOW MANY BITS -/
def cntB (f : Nat → Bool) : Nat → Nat
  | 0 => 0
  | n + 1 => cntB f n + (f n).toNat
theorem cntB_cg {f g : Nat → Bool} (n : Nat) (h : ∀ i, i < n → f i = g i) : cntB f n = cntB g n := by
  induction n with
  | zero => rfl
  | succ n ih =>
    show cntB f n + (f n).toNat = cntB g n + (g n).toNat
    rw [ih (fun i hi => h i (by omega)), h n (by omega)]
theorem cntB_add (f : Nat → Bool) (m n : Nat) : cntB f (m + n) = cntB f m + cntB (fun i => f (m + i)) n := by
  induction n with
  | zero => rfl
  | succ n ih =>
    show cntB f (m + n) + (f (m + n)).toNat = cntB f m + (cntB (fun i => f (m + i)) n + (f (m + n)).toNat)
    rw [ih]; omega
theorem cntB_no {f : Nat → Bool} (n : Nat) (h : ∀ i, i < n → f i = false) : cntB f n = 0 := by
  induction n with
  | zero => rfl
  | succ n ih =>
    show cntB f n + (f n).toNat = 0
    rw [ih (fun i hi => h i (by omega)), h n (by omega)]
    rfl
theorem cntB_all {f : Nat → Bool} (n : Nat) (h : ∀ i, i < n → f i = true) : cntB f n = n := by
  induction n with
  | zero => rfl
  | succ n ih =>
    show cntB f n + (f n).toNat = n + 1
    rw [ih (fun i hi => h i (by omega)), h n (by omega)]
    rfl
theorem cntB_le (f : Nat → Bool) (n : Nat) : cntB f n ≤ n := by
  induction n with
  | zero => exact Nat.le_refl 0
  | succ n ih =>
    show cntB f n + (f n).toNat ≤ n + 1
    have : (f n).toNat ≤ 1 := by cases f n <;> decide
    omega
theorem an8 {a b a' b' : Nat} (h : b < 256) (h' : b' < 256) : (256 * a + b) &&& (256 * a' + b') = 256 * (a &&& a') + (b &&& b') := by
  have h2 : b < 2 ^ 8 := h
  have h2' : b' < 2 ^ 8 := h'
  have hb : b &&& b' < 2 ^ 8 := Nat.and_lt_two_pow b h2'
  have e (x : Nat) : 256 * x = 2 ^ 8 * x := rfl
  apply Nat.eq_of_testBit_eq
  intro i
  rw [Nat.testBit_and, e a, e a', e (a &&& a'), Nat.testBit_two_pow_mul_add a h2 i, Nat.testBit_two_pow_mul_add a' h2' i, Nat.testBit_two_pow_mul_add (a &&& a') hb i]
  by_cases z : i < 8
  · rw [if_pos z, if_pos z, if_pos z, Nat.testBit_and]
  · rw [if_neg z, if_neg z, if_neg z, Nat.testBit_and]
def v4 (a3 a2 a1 a0 : Nat) : Nat := 256 * (256 * (256 * a3 + a2) + a1) + a0
section V4
variable {a3 a2 a1 a0 b3 b2 b1 b0 m3 m2 m1 m0 : Nat}
theorem an4 (h2 : a2 < 256) (h1 : a1 < 256) (h0 : a0 < 256) (k2 : m2 < 256) (k1 : m1 < 256) (k0 : m0 < 256) : v4 a3 a2 a1 a0 &&& v4 m3 m2 m1 m0 = v4 (a3 &&& m3) (a2 &&& m2) (a1 &&& m1) (a0 &&& m0) := by
  unfold v4
  rw [an8 h0 k0, an8 h1 k1, an8 h2 k2]
theorem v4_add : v4 a3 a2 a1 a0 + v4 b3 b2 b1 b0 = v4 (a3 + b3) (a2 + b2) (a1 + b1) (a0 + b0) := by
  unfold v4
  omega
theorem v4_sub (h3 : b3 ≤ a3) (h2 : b2 ≤ a2) (h1 : b1 ≤ a1) (h0 : b0 ≤ a0) : v4 a3 a2 a1 a0 - v4 b3 b2 b1 b0 = v4 (a3 - b3) (a2 - b2) (a1 - b1) (a0 - b0) := by
  unfold v4
  omega
theorem v4_le (h3 : b3 ≤ a3) (h2 : b2 ≤ a2) (h1 : b1 ≤ a1) (h0 : b0 ≤ a0) : v4 b3 b2 b1 b0 ≤ v4 a3 a2 a1 a0 := by
  unfold v4
  omega
theorem v4_lt (h3 : a3 < 256) (h2 : a2 < 256) (h1 : a1 < 256) (h0 : a0 < 256) : v4 a3 a2 a1 a0 < 4294967296 := by
  unfold v4
  omega
end V4
def s8 (b : Nat) : Nat := (b / 2) &&& 85
def d8 (b : Nat) : Nat := b - s8 b
def t8 (b : Nat) : Nat := (d8 b &&& 51) + ((d8 b / 4) &&& 51)
def p8 (b : Nat) : Nat := cntB (fun i => Nat.testBit b i) 8
theorem s8_f : ∀ b, b < 256 → s8 b ≤ b ∧ d8 b < 256 ∧ (t8 b % 16 ≤ 4 ∧ t8 b / 16 ≤ 4) ∧ p8 b ≤ 8 := by decide +kernel
theorem s8_m : ∀ b, b < 256 → ∀ p, p < 2 → ((b / 2 + 128 * p) &&& 85) = s8 b := by decide +kernel
theorem t8_m : ∀ b, b < 256 → ∀ p, p < 4 → ((d8 b / 4 + 64 * p) &&& 51) = ((d8 b / 4) &&& 51) := by decide +kernel
theorem t8_b : ∀ b, b < 256 → (d8 b &&& 51) < 128 ∧ ((d8 b / 4) &&& 51) < 128 := by decide +kernel
theorem p8_m : ∀ b, b < 256 → ∀ p, p < 5 → ((t8 b + (t8 b / 16 + 16 * p)) &&& 15) = p8 b := by decide +kernel
def bn (x : Int32) : Nat := x.toBitVec.toNat
theorem bn_lt (x : Int32) : bn x < 4294967296 := x.toBitVec.isLt
theorem bnA (a b : Int32) : bn (a &&& b) = bn a &&& bn b := by
  unfold bn
  rw [Int32.toBitVec_and, BitVec.toNat_and]
theorem bnP (a b : Int32) (h : bn a + bn b < 4294967296) : bn (a + b) = bn a + bn b := by
  unfold bn at h ⊢
  rw [Int32.toBitVec_add, BitVec.toNat_add]
  exact Nat.mod_eq_of_lt h
theorem bnM (a b : Int32) (h : bn b ≤ bn a) : bn (a - b) = bn a - bn b := by
  have l := bn_lt a
  unfold bn at h l ⊢
  rw [Int32.toBitVec_sub, BitVec.toNat_sub]
  omega
theorem bn_r1 (y : Int32) : bn ((y.toUInt32 >>> ((1 : Int32).toUInt32 &&& Int32.toUInt32 31)).toInt32) = bn y / 2 := by
  show (y.toBitVec >>> (1 : Nat)).toNat = y.toBitVec.toNat / 2 ^ 1
  rw [BitVec.toNat_ushiftRight, Nat.shiftRight_eq_div_pow]
theorem bn_r2 (y : Int32) : bn ((y.toUInt32 >>> ((2 : Int32).toUInt32 &&& Int32.toUInt32 31)).toInt32) = bn y / 4 := by
  show (y.toBitVec >>> (2 : Nat)).toNat = y.toBitVec.toNat / 2 ^ 2
  rw [BitVec.toNat_ushiftRight, Nat.shiftRight_eq_div_pow]
theorem bn_r4 (y : Int32) : bn ((y.toUInt32 >>> ((4 : Int32).toUInt32 &&& Int32.toUInt32 31)).toInt32) = bn y / 16 := by
  show (y.toBitVec >>> (4 : Nat)).toNat = y.toBitVec.toNat / 2 ^ 4
  rw [BitVec.toNat_ushiftRight, Nat.shiftRight_eq_div_pow]
theorem bn_r8 (y : Int32) : bn ((y.toUInt32 >>> ((8 : Int32).toUInt32 &&& Int32.toUInt32 31)).toInt32) = bn y / 256 := by
  show (y.toBitVec >>> (8 : Nat)).toNat = y.toBitVec.toNat / 2 ^ 8
  rw [BitVec.toNat_ushiftRight, Nat.shiftRight_eq_div_pow]
theorem bn_r16 (y : Int32) : bn ((y.toUInt32 >>> ((16 : Int32).toUInt32 &&& Int32.toUInt32 31)).toInt32) = bn y / 65536 := by
  show (y.toBitVec >>> (16 : Nat)).toNat = y.toBitVec.toNat / 2 ^ 16
  rw [BitVec.toNat_ushiftRight, Nat.shiftRight_eq_div_pow]
def bc1 (x : Int32) : Int32 := x - (((x.toUInt32 >>> ((1 : Int32).toUInt32 &&& Int32.toUInt32 31)).toInt32) &&& (1431655765 : Int32))
def bc2 (y : Int32) : Int32 := (y &&& (858993459 : Int32)) + (((y.toUInt32 >>> ((2 : Int32).toUInt32 &&& Int32.toUInt32 31)).toInt32) &&& (858993459 : Int32))
def bc3 (y : Int32) : Int32 := (y + ((y.toUInt32 >>> ((4 : Int32).toUInt32 &&& Int32.toUInt32 31)).toInt32)) &&& (252645135 : Int32)
def bc4 (y : Int32) : Int32 := y + ((y.toUInt32 >>> ((8 : Int32).toUInt32 &&& Int32.toUInt32 31)).toInt32)
def bc5 (y : Int32) : Int32 := y + ((y.toUInt32 >>> ((16 : Int32).toUInt32 &&& Int32.toUInt32 31)).toInt32)
def bcI (x : Int32) : Int32 := bc5 (bc4 (bc3 (bc2 (bc1 x)))) &&& (63 : Int32)
section BC
variable {x : Int32} {b3 b2 b1 b0 : Nat}
theorem bc1_v (h3 : b3 < 256) (h2 : b2 < 256) (h1 : b1 < 256) (h0 : b0 < 256) (e : bn x = v4 b3 b2 b1 b0) : bn (bc1 x) = v4 (d8 b3) (d8 b2) (d8 b1) (d8 b0) := by
  have m : bn (((x.toUInt32 >>> ((1 : Int32).toUInt32 &&& Int32.toUInt32 31)).toInt32) &&& (1431655765 : Int32)) = v4 (s8 b3) (s8 b2) (s8 b1) (s8 b0) := by
    have e1 : v4 b3 b2 b1 b0 / 2 = v4 (b3 / 2) (b2 / 2 + 128 * (b3 % 2)) (b1 / 2 + 128 * (b2 % 2)) (b0 / 2 + 128 * (b1 % 2)) := by
      unfold v4
      omega
    have e2 : bn (1431655765 : Int32) = v4 85 85 85 85 := by decide
    rw [bnA, bn_r1, e, e1, e2, an4 (by omega) (by omega) (by omega) (by decide) (by decide) (by decide), s8_m b2 h2 _ (by omega), s8_m b1 h1 _ (by omega), s8_m b0 h0 _ (by omega)]
    rfl
  have g3 := (s8_f b3 h3).1
  have g2 := (s8_f b2 h2).1
  have g1 := (s8_f b1 h1).1
  have g0 := (s8_f b0 h0).1
  unfold bc1
  rw [bnM _ _ (by rw [m, e]; exact v4_le g3 g2 g1 g0), m, e, v4_sub g3 g2 g1 g0]
  rfl
theorem bc2_v (h3 : b3 < 256) (h2 : b2 < 256) (h1 : b1 < 256) (h0 : b0 < 256) (e : bn x = v4 (d8 b3) (d8 b2) (d8 b1) (d8 b0)) : bn (bc2 x) = v4 (t8 b3) (t8 b2) (t8 b1) (t8 b0) := by
  have g3 := (s8_f b3 h3).2.1
  have g2 := (s8_f b2 h2).2.1
  have g1 := (s8_f b1 h1).2.1
  have g0 := (s8_f b0 h0).2.1
  have k3 := t8_b b3 h3
  have k2 := t8_b b2 h2
  have k1 := t8_b b1 h1
  have k0 := t8_b b0 h0
  have e2 : bn (858993459 : Int32) = v4 51 51 51 51 := by decide
  have m1 : bn (x &&& (858993459 : Int32)) = v4 (d8 b3 &&& 51) (d8 b2 &&& 51) (d8 b1 &&& 51) (d8 b0 &&& 51) := by
    rw [bnA, e, e2, an4 g2 g1 g0 (by decide) (by decide) (by decide)]
  have m2 : bn (((x.toUInt32 >>> ((2 : Int32).toUInt32 &&& Int32.toUInt32 31)).toInt32) &&& (858993459 : Int32)) = v4 ((d8 b3 / 4) &&& 51) ((d8 b2 / 4) &&& 51) ((d8 b1 / 4) &&& 51) ((d8 b0 / 4) &&& 51) := by
    have e1 : v4 (d8 b3) (d8 b2) (d8 b1) (d8 b0) / 4 = v4 (d8 b3 / 4) (d8 b2 / 4 + 64 * (d8 b3 % 4)) (d8 b1 / 4 + 64 * (d8 b2 % 4)) (d8 b0 / 4 + 64 * (d8 b1 % 4)) := by
      unfold v4
      omega
    rw [bnA, bn_r2, e, e1, e2, an4 (by omega) (by omega) (by omega) (by decide) (by decide) (by decide), t8_m b2 h2 _ (by omega), t8_m b1 h1 _ (by omega), t8_m b0 h0 _ (by omega)]
  unfold bc2
  rw [bnP _ _ (by rw [m1, m2, v4_add]; exact v4_lt (by omega) (by omega) (by omega) (by omega)), m1, m2, v4_add]
  rfl
theorem bc3_v (h3 : b3 < 256) (h2 : b2 < 256) (h1 : b1 < 256) (h0 : b0 < 256) (e : bn x = v4 (t8 b3) (t8 b2) (t8 b1) (t8 b0)) : bn (bc3 x) = v4 (p8 b3) (p8 b2) (p8 b1) (p8 b0) := by
  have g3 := (s8_f b3 h3).2.2.1
  have g2 := (s8_f b2 h2).2.2.1
  have g1 := (s8_f b1 h1).2.2.1
  have g0 := (s8_f b0 h0).2.2.1
  have e2 : bn (252645135 : Int32) = v4 15 15 15 15 := by decide
  have e1 : v4 (t8 b3) (t8 b2) (t8 b1) (t8 b0) / 16 = v4 (t8 b3 / 16 + 16 * 0) (t8 b2 / 16 + 16 * (t8 b3 % 16)) (t8 b1 / 16 + 16 * (t8 b2 % 16)) (t8 b0 / 16 + 16 * (t8 b1 % 16)) := by
    unfold v4
    omega
  have m : bn (x + ((x.toUInt32 >>> ((4 : Int32).toUInt32 &&& Int32.toUInt32 31)).toInt32)) = v4 (t8 b3 + (t8 b3 / 16 + 16 * 0)) (t8 b2 + (t8 b2 / 16 + 16 * (t8 b3 % 16))) (t8 b1 + (t8 b1 / 16 + 16 * (t8 b2 % 16))) (t8 b0 + (t8 b0 / 16 + 16 * (t8 b1 % 16))) := by
    rw [bnP _ _ (by rw [bn_r4, e, e1, v4_add]; exact v4_lt (by omega) (by omega) (by omega) (by omega)), bn_r4, e, e1, v4_add]
  unfold bc3
  rw [bnA, m, e2, an4 (by omega) (by omega) (by omega) (by decide) (by decide) (by decide), p8_m b3 h3 0 (by decide), p8_m b2 h2 _ (by omega), p8_m b1 h1 _ (by omega), p8_m b0 h0 _ (by omega)]
theorem bc5_v (h3 : b3 ≤ 8) (h2 : b2 ≤ 8) (h1 : b1 ≤ 8) (h0 : b0 ≤ 8) (e : bn x = v4 b3 b2 b1 b0) : bn (bc5 (bc4 x) &&& (63 : Int32)) = b0 + b1 + b2 + b3 := by
  unfold v4 at e
  have d4 : bn x / 256 = 256 * (256 * b3 + b2) + b1 := by omega
  have m4 : bn (bc4 x) = bn x + bn x / 256 := by
    unfold bc4
    rw [bnP _ _ (by rw [bn_r8]; omega), bn_r8]
  have d5 : bn (bc4 x) / 65536 = 256 * b3 + (b2 + b3) := by omega
  have m5 : bn (bc5 (bc4 x)) = bn (bc4 x) + bn (bc4 x) / 65536 := by
    unfold bc5
    rw [bnP _ _ (by rw [bn_r16]; omega), bn_r16]
  have e2 : bn (63 : Int32) = 2 ^ 6 - 1 := by decide
  rw [bnA, e2, Nat.and_two_pow_sub_one_eq_mod, m5, d5, m4, d4, e]
  omega
theorem p8_of (N s : Nat) : p8 (N / 2 ^ s % 256) = cntB (fun i => Nat.testBit N (s + i)) 8 := by
  unfold p8
  refine cntB_cg 8 (fun i hi => ?_)
  show Nat.testBit (N / 2 ^ s % 2 ^ 8) i = Nat.testBit N (s + i)
  rw [Nat.testBit_mod_two_pow, decide_eq_true hi, Bool.true_and, Nat.testBit_div_two_pow, Nat.add_comm]
theorem bc_cnt (x : Int32) : bn (bcI x) = cntB (bt x) 32 := by
  have l := bn_lt x
  have q3 : bn x / 2 ^ 24 % 256 < 256 := Nat.mod_lt _ (by decide)
  have q2 : bn x / 2 ^ 16 % 256 < 256 := Nat.mod_lt _ (by decide)
  have q1 : bn x / 2 ^ 8 % 256 < 256 := Nat.mod_lt _ (by decide)
  have q0 : bn x / 2 ^ 0 % 256 < 256 := Nat.mod_lt _ (by decide)
  have e : bn x = v4 (bn x / 2 ^ 24 % 256) (bn x / 2 ^ 16 % 256) (bn x / 2 ^ 8 % 256) (bn x / 2 ^ 0 % 256) := by
    unfold v4
    omega
  have r := bc5_v (s8_f _ q3).2.2.2 (s8_f _ q2).2.2.2 (s8_f _ q1).2.2.2 (s8_f _ q0).2.2.2 (bc3_v q3 q2 q1 q0 (bc2_v q3 q2 q1 q0 (bc1_v q3 q2 q1 q0 e)))
  unfold bcI
  rw [r, p8_of, p8_of, p8_of, p8_of]
  have c1 := cntB_add (bt x) 24 8
  have c2 := cntB_add (bt x) 16 8
  have c3 := cntB_add (bt x) 8 8
  have c4 : cntB (fun i => Nat.testBit (bn x) (0 + i)) 8 = cntB (bt x) 8 := cntB_cg 8 (fun i _ => by rw [Nat.zero_add]; rfl)
  have d1 : cntB (fun i => Nat.testBit (bn x) (24 + i)) 8 = cntB (fun i => bt x (24 + i)) 8 := rfl
  have d2 : cntB (fun i => Nat.testBit (bn x) (16 + i)) 8 = cntB (fun i => bt x (16 + i)) 8 := rfl
  have d3 : cntB (fun i => Nat.testBit (bn x) (8 + i)) 8 = cntB (fun i => bt x (8 + i)) 8 := rfl
  rw [c4, d1, d2, d3]
  show _ = cntB (bt x) (24 + 8)
  have c2' : cntB (bt x) 24 = cntB (bt x) 16 + cntB (fun i => bt x (16 + i)) 8 := c2
  have c3' : cntB (bt x) 16 = cntB (bt x) 8 + cntB (fun i => bt x (8 + i)) 8 := c3
  omega
theorem bc_int (x : Int32) : (bcI x).toInt = (cntB (bt x) 32 : Nat) := by
  have h := bc_cnt x
  have l := cntB_le (bt x) 32
  show (bcI x).toBitVec.toInt = _
  have e : (bcI x).toBitVec.toNat = cntB (bt x) 32 := h
  rw [BitVec.toInt_eq_toNat_of_lt (by rw [e]; omega), e]
theorem pc_bits {n : Nat} {h : Hp} : Pc (F_J6_bitCount_0f7a4 n h x) (fun q => q.2 = h ∧ q.1.toInt = (cntB (bt x) 32 : Nat)) := by
  have e : F_J6_bitCount_0f7a4 n h x = some (bcI x, h) := rfl
  rw [e]
  exact Pc.ret ⟨rfl, bc_int x⟩
/-- the lowest one -/
theorem low_bits (x : Int32) (i : Nat) (hi : i < 32) (h1 : bt x i = true) (h2 : ∀ m, m < i → bt x m = false) : cntB (bt ((x &&& (-x)) - 1)) 32 = i := by
  have e1 : (x &&& (-x)).toBitVec = BitVec.twoPow 32 i := by
    apply BitVec.eq_of_getLsbD_eq
    intro j hj
    rw [Int32.toBitVec_and, BitVec.getLsbD_and, Int32.toBitVec_neg, BitVec.getLsbD_neg, BitVec.getLsbD_twoPow, decide_eq_true hj, Bool.true_and, decide_eq_true hi, Bool.true_and]
    rcases Nat.lt_trichotomy j i with z | z | z
    · have a : x.toBitVec.getLsbD j = false := h2 j z
      rw [a, Bool.false_and, decide_eq_false (by omega)]
    · subst z
      have a : x.toBitVec.getLsbD j = true := h1
      have b : ¬ ∃ k, k < j ∧ x.toBitVec.getLsbD k = true := fun ⟨k, k1, k2⟩ => by
        have c : x.toBitVec.getLsbD k = false := h2 k k1
        rw [c] at k2
        exact Bool.noConfusion k2
      rw [a, decide_eq_false b, decide_eq_true rfl]
      rfl
    · have b : ∃ k, k < j ∧ x.toBitVec.getLsbD k = true := ⟨i, z, h1⟩
      rw [decide_eq_true b, decide_eq_false (show ¬ i = j by omega)]
      cases x.toBitVec.getLsbD j <;> rfl
  have pw : 2 ^ i < 2 ^ 32 := Nat.pow_lt_pow_right (by decide) hi
  have p1 : 1 ≤ 2 ^ i := Nat.one_le_two_pow
  have e2 : bn (x &&& (-x)) = 2 ^ i := by
    unfold bn
    rw [e1, BitVec.toNat_twoPow, Nat.mod_eq_of_lt pw]
  have e3 : bn (1 : Int32) = 1 := by decide
  have e4 : bn ((x &&& (-x)) - 1) = 2 ^ i - 1 := by
    rw [bnM _ _ (by rw [e2, e3]; exact p1), e2, e3]
  have e5 (j : Nat) : bt ((x &&& (-x)) - 1) j = decide (j < i) := by
    show Nat.testBit (bn ((x &&& (-x)) - 1)) j = _
    rw [e4, Nat.testBit_two_pow_sub_one]
  have s : cntB (bt ((x &&& (-x)) - 1)) (i + (32 - i)) = cntB (bt ((x &&& (-x)) - 1)) i + cntB (fun j => bt ((x &&& (-x)) - 1) (i + j)) (32 - i) := cntB_add _ i (32 - i)
  rw [show i + (32 - i) = 32 by omega, cntB_all i (fun j hj => by rw [e5, decide_eq_true hj]), cntB_no (32 - i) (fun j hj => by rw [e5]; exact decide_eq_false (by omega))] at s
  exact s
theorem low_none : cntB (bt (((0 : Int32) &&& (-0)) - 1)) 32 = 32 := cntB_all 32 (by decide)
theorem pc_lowest {n : Nat} {h : Hp} : Pc (F_X11_lowest n h x) (fun q => q.2 = h ∧ (x = 0 → q.1.toInt = 32) ∧ ∀ i : Nat, i < 32 → bt x i = true → (∀ m, m < i → bt x m = false) → q.1.toInt = (i : Int)) := by
  unfold F_X11_lowest
  refine Pc.bind pc_bits (fun q1 hq => Pc.ret ⟨hq.1, fun z => ?_, fun i hi h1 h2 => ?_⟩)
  · show q1.1.toInt = 32
    have := hq.2
    rw [z, low_none] at this
    exact this
  · show q1.1.toInt = (i : Int)
    rw [hq.2, low_bits x i hi h1 h2]
end BC
