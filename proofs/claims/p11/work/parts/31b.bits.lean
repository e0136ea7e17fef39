/-! bits of sets -/
def bt (x : Int32) (i : Nat) : Bool := x.toBitVec.getLsbD i
theorem bt_ext {x y : Int32} (h : ∀ i, i < 32 → bt x i = bt y i) : x = y := Int32.toBitVec_inj.mp (BitVec.eq_of_getLsbD_eq (fun i il => h i il))
theorem bt_ge (x : Int32) {i : Nat} (h : 32 ≤ i) : bt x i = false := BitVec.getLsbD_of_ge _ _ h
theorem bt_zero (i : Nat) : bt 0 i = false := BitVec.getLsbD_zero
theorem bt_ne {x : Int32} (h : x ≠ 0) : ∃ i, i < 32 ∧ bt x i = true := by
  by_cases q : ∃ i, i < 32 ∧ bt x i = true
  · exact q
  · refine absurd (bt_ext (x := x) (y := 0) (fun i il => ?_)) h
    rw [bt_zero]
    by_cases z : bt x i = true
    · exact absurd ⟨i, il, z⟩ q
    · exact Bool.eq_false_iff.mpr z
theorem ne_bt {x : Int32} {i : Nat} (h : bt x i = true) : x ≠ 0 := fun q => by
  rw [q, bt_zero] at h
  cases h
theorem bt_and (x y : Int32) (i : Nat) : bt (x &&& y) i = (bt x i && bt y i) := by
  unfold bt
  rw [Int32.toBitVec_and, BitVec.getLsbD_and]
theorem bt_or (x y : Int32) (i : Nat) : bt (x ||| y) i = (bt x i || bt y i) := by
  unfold bt
  rw [Int32.toBitVec_or, BitVec.getLsbD_or]
theorem bt_not (x : Int32) {i : Nat} (h : i < 32) : bt (x ^^^ (-1)) i = !bt x i := by
  unfold bt
  rw [Int32.toBitVec_xor, BitVec.getLsbD_xor, show (Int32.toBitVec (-1)) = BitVec.allOnes 32 by decide, BitVec.getLsbD_allOnes, decide_eq_true h, Bool.xor_true]
theorem nc32 {c : Int32} (h0 : 0 ≤ c.toInt) : Int32.ofNat (Int32.toNatClampNeg c) = c := by
  have e := lit_0
  exact Int32.ofNat_toNatClampNeg c (Int32.le_iff_toInt_le.mpr (by omega))
theorem smodA : ∀ m, m < 32 → BitVec.smod (Int32.toBitVec (Int32.ofNat m &&& 31)) 32#32 = BitVec.ofNat 32 m := by decide +kernel
theorem smodC {c : Int32} (h0 : 0 ≤ c.toInt) (h1 : c.toInt < 32) : (BitVec.smod (Int32.toBitVec (c &&& 31)) 32#32).toNat = Int32.toNatClampNeg c := by
  have h2 := ncT h0
  have h3 := smodA (Int32.toNatClampNeg c) (by omega)
  rw [nc32 h0] at h3
  rw [h3, BitVec.toNat_ofNat, Nat.mod_eq_of_lt (by omega)]
/-- x >> c & 1 -/
theorem btS (x : Int32) {c : Int32} (h0 : 0 ≤ c.toInt) (h1 : c.toInt < 32) : ((x >>> (c &&& 31)) &&& 1).toInt = if bt x (Int32.toNatClampNeg c) = true then 1 else 0 := by
  have h2 := ncT h0
  have e1 : ((x >>> (c &&& 31)) &&& 1 : Int32).toBitVec = (x.toBitVec.sshiftRight (Int32.toNatClampNeg c)) &&& 1#32 := by
    rw [Int32.toBitVec_and, Int32.toBitVec_shiftRight]
    show BitVec.sshiftRight x.toBitVec (BitVec.smod (Int32.toBitVec (c &&& 31)) 32#32).toNat &&& _ = _
    rw [smodC h0 h1]
    rfl
  show ((x >>> (c &&& 31)) &&& 1 : Int32).toBitVec.toInt = _
  rw [e1, BitVec.and_one_eq_setWidth_ofBool_getLsbD, BitVec.getLsbD_sshiftRight]
  have e2 : (!decide (32 ≤ 0) && if Int32.toNatClampNeg c + 0 < 32 then x.toBitVec.getLsbD (Int32.toNatClampNeg c + 0) else x.toBitVec.msb) = bt x (Int32.toNatClampNeg c) := by
    rw [if_pos (by omega)]
    rfl
  rw [e2]
  cases bt x (Int32.toNatClampNeg c) <;> decide
/-- 1 << c -/
theorem btL {c : Int32} (h0 : 0 ≤ c.toInt) (h1 : c.toInt < 32) (i : Nat) : bt ((1 : Int32) <<< (c &&& 31)) i = decide (i = Int32.toNatClampNeg c) := by
  have h2 := ncT h0
  unfold bt
  rw [Int32.toBitVec_shiftLeft]
  show ((1#32 : BitVec 32) <<< (BitVec.smod (Int32.toBitVec (c &&& 31)) 32#32).toNat).getLsbD i = _
  rw [smodC h0 h1, BitVec.getLsbD_shiftLeft, BitVec.getLsbD_one]
  by_cases q : i = Int32.toNatClampNeg c
  · subst q
    have : Int32.toNatClampNeg c < 32 := by omega
    simp [this]
  · by_cases q1 : i < Int32.toNatClampNeg c
    · simp [q1, q]
    · have : ¬ (i - Int32.toNatClampNeg c = 0) := by omega
      simp [this, q]
theorem btLc {c : Int32} (h0 : 0 ≤ c.toInt) (h1 : c.toInt < 32) : bt ((1 : Int32) <<< (c &&& 31)) (Int32.toNatClampNeg c) = true := by
  rw [btL h0 h1]
  exact decide_eq_true rfl
theorem btS0 (x : Int32) {c : Int32} (h0 : 0 ≤ c.toInt) (h1 : c.toInt < 32) : ((x >>> (c &&& 31)) &&& 1).toInt = 0 ↔ bt x (Int32.toNatClampNeg c) = false := by
  rw [btS x h0 h1]
  cases bt x (Int32.toNatClampNeg c) <;> decide
theorem btS1 (x : Int32) {c : Int32} (h0 : 0 ≤ c.toInt) (h1 : c.toInt < 32) : ((x >>> (c &&& 31)) &&& 1).toInt = 1 ↔ bt x (Int32.toNatClampNeg c) = true := by
  rw [btS x h0 h1]
  cases bt x (Int32.toNatClampNeg c) <;> decide
/-- the lowest of a set that isn't empty -/
theorem sf_low (n : Nat) : ∀ (h : Hp) (l0 l1 : Int32) (i : Nat), bt l0 i = true → i < 32 → 0 ≤ l1.toInt → l1.toInt ≤ i → (∀ m : Nat, (m : Int) < l1.toInt → bt l0 m = false) → (1 : Int) + (32 - l1.toInt) < n → Ok (W_X12_lowestOf n 2 h l0 l1) (fun q => q.2 = h ∧ 0 ≤ q.1.toInt ∧ q.1.toInt < 32 ∧ bt l0 (Int32.toNatClampNeg q.1) = true ∧ (∀ m : Nat, (m : Int) < q.1.toInt → bt l0 m = false)) := by
  induction n with
  | zero => intro h l0 l1 i il h32 h0 h1 hm hn; exfalso; omega
  | succ n ih =>
    intro h l0 l1 i il h32 h0 h1 hm hn
    rw [u_X12_lowestOf]
    refine Ok.pos rfl ?_
    have z := btS0 l0 h0 (by omega)
    have e := ncT h0
    refine Ok.eq (fun c => ?_) (fun c => ?_)
    · rw [lit_0] at c
      have c2 := z.mp c
      have hne : Int32.toNatClampNeg l1 ≠ i := fun q => by rw [q, il] at c2; cases c2
      have f := adT l1 1
      have f1 := lit_1
      refine ih h l0 (l1 + 1) i il h32 (by omega) (by omega) (fun m hm2 => ?_) (by omega)
      by_cases q : (m : Int) < l1.toInt
      · exact hm m q
      · rw [show m = Int32.toNatClampNeg l1 by omega]
        exact c2
    · refine Ok.ret ⟨rfl, h0, by show l1.toInt < 32; omega, ?_, hm⟩
      show bt l0 (Int32.toNatClampNeg l1) = true
      rw [lit_0] at c
      cases q : bt l0 (Int32.toNatClampNeg l1) with
      | true => rfl
      | false => exact absurd (z.mpr q) c
theorem sf_X12_lowestOf {n : Nat} {h : Hp} {x : Int32} (hn : 40 ≤ n) (hx : x ≠ 0) : Ok (F_X12_lowestOf n h x) (fun q => q.2 = h ∧ 0 ≤ q.1.toInt ∧ q.1.toInt < 32 ∧ bt x (Int32.toNatClampNeg q.1) = true ∧ (∀ m : Nat, (m : Int) < q.1.toInt → bt x m = false)) := by
  obtain ⟨i, h1, h2⟩ := bt_ne hx
  have e := lit_0
  unfold F_X12_lowestOf
  exact sf_low n h x 0 i h2 h1 (by omega) (by omega) (fun m hm => by omega) (by omega)
