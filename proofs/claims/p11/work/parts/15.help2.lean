/-! helps for methods as functions with fuel and checks -/
theorem ck_some {α : Type} {c : Prop} [Decidable c] {A : Option α} {x : α} (h : (if c then A else none) = some x) : c ∧ A = some x := by
  by_cases k : c
  · rw [if_pos k] at h; exact ⟨k, h⟩
  · rw [if_neg k] at h; cases h
theorem ck_none {α : Type} {c : Prop} [Decidable c] {A : Option α} {x : α} (h : (if c then none else A) = some x) : ¬ c ∧ A = some x := by
  by_cases k : c
  · rw [if_pos k] at h; cases h
  · rw [if_neg k] at h; exact ⟨k, h⟩
def ixOK (i : Int32) (n : Nat) : Bool := decide (0 ≤ i) && decide (i.toNatClampNeg < n)
theorem ixO {i : Int32} {n : Nat} (h : ixOK i n = true) : ix i n i.toNatClampNeg := ixK _ (by
  simp only [ixOK, Bool.and_eq_true, decide_eq_true_eq] at h
  simp [ixB, h.1, h.2])
theorem ixO_lt {i : Int32} {n : Nat} (h : ixOK i n = true) : i.toNatClampNeg < n := by
  simp only [ixOK, Bool.and_eq_true, decide_eq_true_eq] at h
  exact h.2
/-- la2 knows no more than la -/
def wk : List (Option Value) → List (Option Value) → Prop
  | [], _ => True
  | none :: l2, l => wk l2 l.tail
  | some v :: l2, l => l.head? = some (some v) ∧ wk l2 l.tail
theorem wk_at : ∀ (l2 l : List (Option Value)), wk l2 l → ∀ (i : Nat) (v : Value), l2[i]? = some (some v) → l[i]? = some (some v)
  | [], _, _, i, v, h => by simp at h
  | none :: l2, l, hw, i, v, h => by
    cases i with
    | zero => simp at h
    | succ i =>
      have := wk_at l2 l.tail hw i v (by simpa using h)
      cases l with
      | nil => simp at this
      | cons x l => simpa using this
  | some w :: l2, l, hw, i, v, h => by
    obtain ⟨h1, h2⟩ := hw
    cases l with
    | nil => simp at h1
    | cons x l =>
      cases i with
      | zero => simp at h h1 ⊢; rw [h1, h]
      | succ i =>
        have := wk_at l2 l h2 i v (by simpa using h)
        simpa using this
theorem V.weak {M : MT} {d pc : Nat} {la la2 : List (Option Value)} {st : List Value} {h : Hp} {Q : Option Value → Hp → Prop} (hw : wk la2 la) (k : V M d pc la2 st h Q) : V M d pc la st h Q := by
  obtain ⟨r, h', hQ, hle, hX⟩ := k
  exact ⟨r, h', hQ, hle, fun l b n0 D g p e s m args below meth c H locs ls C hn0 hz hP hS hl => hX l b n0 D g p e s m args below meth c H locs ls C hn0 hz hP hS ⟨hl.1, hl.2.1, fun i v hi => hl.2.2 i v (wk_at _ _ hw i v hi)⟩⟩
theorem shS {a : Nat} (h : Sc a) : shp a = .inl 8 := h.1
theorem past_ok : ∀ j, j < 40 → R0 39 j = some (40 + 4 * j) := by decide +kernel
theorem rPast {h : Hp} {j : Nat} (hG : G h) (hj : j < 40) : hr h 39 j = some (40 + 4 * j) := rG hG (past_ok j hj)
theorem slot_ok : ∀ j, j < 3 → R0 200 j = some (214 + 4 * j) := by decide +kernel
theorem rSlot {h : Hp} {j : Nat} (hG : G h) (hj : j < 3) : hr h 200 j = some (214 + 4 * j) := rG hG (slot_ok j hj)
theorem scPast0 : ∀ j, j < 40 → shp (40 + 4 * j) = .inl 8 ∧ shp (40 + 4 * j + 1) = .inr (.byte, 25) ∧ shp (40 + 4 * j + 2) = .inr (.int, 5) ∧ shp (40 + 4 * j + 3) = .inr (.int, 5) ∧ 40 + 4 * j + 3 < 275 ∧ R0 (40 + 4 * j) 4 = some (40 + 4 * j + 1) ∧ R0 (40 + 4 * j) 5 = some (40 + 4 * j + 2) ∧ R0 (40 + 4 * j) 6 = some (40 + 4 * j + 3) := by decide +kernel
theorem scPast {j : Nat} (hj : j < 40) : Sc (40 + 4 * j) := scPast0 j hj
theorem scSlot0 : ∀ j, j < 3 → shp (214 + 4 * j) = .inl 8 ∧ shp (214 + 4 * j + 1) = .inr (.byte, 25) ∧ shp (214 + 4 * j + 2) = .inr (.int, 5) ∧ shp (214 + 4 * j + 3) = .inr (.int, 5) ∧ 214 + 4 * j + 3 < 275 ∧ R0 (214 + 4 * j) 4 = some (214 + 4 * j + 1) ∧ R0 (214 + 4 * j) 5 = some (214 + 4 * j + 2) ∧ R0 (214 + 4 * j) 6 = some (214 + 4 * j + 3) := by decide +kernel
theorem scSlot {j : Nat} (hj : j < 3) : Sc (214 + 4 * j) := scSlot0 j hj
/-- a row of n ints -/
def ArI (n a : Nat) : Prop := shp a = .inr (.int, n) ∧ a < 275
