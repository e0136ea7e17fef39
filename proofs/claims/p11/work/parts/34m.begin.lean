/-! READING: the row as it begins -/
/-- the rows of what was told, all on the lawn (s: the side, now live) -/
def onL (s w g : Nat) (h : Hp) : Prop := (∀ k : Nat, (k : Int) < (hi h 237 s).toInt → (0 ≤ (hi h 238 (8 * s + k)).toInt ∧ (hi h 238 (8 * s + k)).toInt < w) ∧ (0 ≤ (hi h 239 (8 * s + k)).toInt ∧ (hi h 239 (8 * s + k)).toInt < g) ∧ (2 ≤ (hi h 240 (8 * s + k)).toInt ∧ (hi h 240 (8 * s + k)).toInt ≤ 6) ∧ 0 ≤ (hi h 241 (8 * s + k)).toInt ∧ (hi h 241 (8 * s + k)).toInt < (hi h 240 (8 * s + k)).toInt) ∧ (∀ k : Nat, (k : Int) < (hi h 242 s).toInt → (0 ≤ (hi h 243 (5 * s + k)).toInt ∧ (hi h 243 (5 * s + k)).toInt < w) ∧ (0 ≤ (hi h 244 (5 * s + k)).toInt ∧ (hi h 244 (5 * s + k)).toInt < g))
def bgS (w g : Nat) (hS h : Hp) : Prop := ((∀ a k, a ≠ 263 → hi h a k = hi hS a k) ∧ (∀ a k, hl h a k = hl hS a k)) ∧ rwO ((w * g : Nat) : Int) (hi h 263) ∧ ovO (hi h 263)
theorem cellN {w g x y : Nat} (hx : x < w) (hy : y < g) : w * y + x < w * g := by
  have h1 : w * y + x < w * (y + 1) := by rw [Nat.mul_succ]; omega
  exact Nat.lt_of_lt_of_le h1 (Nat.mul_le_mul (Nat.le_refl w) hy)
theorem sr_cellAt {n : Nat} {h : Hp} {w g : Nat} {x y : Int32} (w5 : w ≤ 5) (g5 : g ≤ 5) (l0 : 0 ≤ (hi h 226 18).toInt) (l1 : (hi h 226 18).toInt ≤ 1) (hw : (hi h 235 (Int32.toNatClampNeg (hi h 226 18))).toInt = (w : Int)) (x0 : 0 ≤ x.toInt) (x1 : x.toInt < w) (y0 : 0 ≤ y.toInt) (y1 : y.toInt < g) : Ok (F_X12_cellAt n h x y) (fun q => q.2 = h ∧ ∃ c : Nat, q.1.toInt = (c : Int) ∧ c < w * g ∧ (c : Int) = w * y.toInt + x.toInt) := by
  unfold F_X12_cellAt
  refine Ok.pos (ixT (by omega) (by omega)) ?_
  have e1 : x.toInt = (x.toInt.toNat : Int) := by omega
  have e2 : y.toInt = (y.toInt.toNat : Int) := by omega
  have hc : w * y.toInt.toNat + x.toInt.toNat < w * g := cellN (by omega) (by omega)
  have w25 : w * g ≤ 5 * 5 := Nat.mul_le_mul w5 g5
  have p0 : (w * y.toInt.toNat : Nat) ≤ 25 := by omega
  have m : (hi h 235 (Int32.toNatClampNeg (hi h 226 18)) * y).toInt = ((w * y.toInt.toNat : Nat) : Int) := by
    rw [Int32.toInt_mul, hw, e2, ← Int.natCast_mul, Int.toNat_natCast]
    exact bmT (by omega) (by omega)
  have a := adT (hi h 235 (Int32.toNatClampNeg (hi h 226 18)) * y) x (by omega) (by omega)
  refine Ok.ret ⟨rfl, w * y.toInt.toNat + x.toInt.toNat, ?_, hc, ?_⟩
  · show (hi h 235 (Int32.toNatClampNeg (hi h 226 18)) * y + x).toInt = _
    omega
  · rw [Int.natCast_add, Int.natCast_mul, ← e1, ← e2]
theorem bg_tune {w g : Nat} {hS h : Hp} (w25 : w * g ≤ 25) (b : bgS w g hS h) {c : Nat} (hc : c < w * g) {u v : Int32} (u0 : 2 ≤ u.toInt) (u1 : u.toInt ≤ 6) (v0 : 0 ≤ v.toInt) (v1 : v.toInt < u.toInt) : bgS w g hS (wrI (wrI h 263 c u) 263 (25 + c) v) := by
  have e0 (i : Nat) : hi (wrI (wrI h 263 c u) 263 (25 + c) v) 263 i = if i = 25 + c then v else if i = c then u else hi h 263 i := by
    rw [hi_wrI, hi_wrI]
    by_cases q : i = 25 + c
    · rw [if_pos q, if_pos ⟨rfl, q⟩]
    · rw [if_neg q, if_neg (fun z => q z.2)]
      by_cases q2 : i = c
      · rw [if_pos q2, if_pos ⟨rfl, q2⟩]
      · rw [if_neg q2, if_neg (fun z => q2 z.2)]
  obtain ⟨⟨b1, b2⟩, b3, b4⟩ := b
  refine ⟨⟨fun a k q => ?_, fun a k => b2 a k⟩, ⟨fun i il => ?_, fun i h1 h2 => ?_⟩, fun i il h1 => ?_⟩
  · rw [hi_wrI, if_neg (fun z => q z.1), hi_wrI, if_neg (fun z => q z.1)]
    exact b1 a k q
  · rw [e0, if_neg (by omega)]
    by_cases q : i = c
    · rw [if_pos q]; omega
    · rw [if_neg q]; exact b3.1 i il
  · rw [e0, if_neg (by omega), if_neg (by omega)]
    exact b3.2 i h1 h2
  · have a1 : hi (wrI (wrI h 263 c u) 263 (25 + c) v) 263 i = if i = c then u else hi h 263 i := by rw [e0, if_neg (by omega)]
    have a2 := e0 (25 + i)
    rw [a1] at h1 ⊢
    rw [a2]
    by_cases q : i = c
    · rw [if_pos q] at h1 ⊢
      rw [if_pos (by omega)]
      exact ⟨v0, v1⟩
    · rw [if_neg q] at h1 ⊢
      rw [if_neg (by omega), if_neg (by omega)]
      exact b4 i il h1
theorem bg_one {w g : Nat} {hS h : Hp} (b : bgS w g hS h) {k : Nat} {v : Int32} (k0 : 50 ≤ k) (ok : 51 ≤ k → k < 56 → 0 ≤ v.toInt ∧ v.toInt < ((w * g : Nat) : Int)) : bgS w g hS (wrI h 263 k v) := by
  have e0 (i : Nat) : hi (wrI h 263 k v) 263 i = if i = k then v else hi h 263 i := by
    rw [hi_wrI]
    by_cases q : i = k
    · rw [if_pos q, if_pos ⟨rfl, q⟩]
    · rw [if_neg q, if_neg (fun z => q z.2)]
  obtain ⟨⟨b1, b2⟩, b3, b4⟩ := b
  refine ⟨⟨fun a z q => ?_, fun a z => b2 a z⟩, ⟨fun i il => ?_, fun i h1 h2 => ?_⟩, fun i il h1 => ?_⟩
  · rw [hi_wrI, if_neg (fun z => q z.1)]
    exact b1 a z q
  · rw [e0, if_neg (by omega)]
    exact b3.1 i il
  · rw [e0]
    by_cases q : i = k
    · rw [if_pos q]; exact ok (by omega) (by omega)
    · rw [if_neg q]; exact b3.2 i h1 h2
  · rw [e0, if_neg (by omega)] at h1
    rw [e0, if_neg (by omega), e0, if_neg (by omega)]
    exact b4 i il h1
