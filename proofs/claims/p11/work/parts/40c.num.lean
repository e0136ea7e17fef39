/-! LONGS, BYTES, SHORTS as numbers -/
theorem adL (a b : Int64) : -9223372036854775808 ≤ a.toInt + b.toInt → a.toInt + b.toInt ≤ 9223372036854775807 → (a + b).toInt = a.toInt + b.toInt := by
  intro h1 h2
  rw [Int64.toInt_add]
  exact Int.bmod_eq_of_le (by omega) (by omega)
theorem mlL (a b : Int64) (c : Int) (hc : b.toInt = c) : -9223372036854775808 ≤ a.toInt * c → a.toInt * c ≤ 9223372036854775807 → (a * b).toInt = a.toInt * c := by
  intro h1 h2
  rw [Int64.toInt_mul, hc]
  exact Int.bmod_eq_of_le (by omega) (by omega)
theorem mlL' (a b : Int64) (c : Int) (hc : a.toInt = c) : -9223372036854775808 ≤ c * b.toInt → c * b.toInt ≤ 9223372036854775807 → (a * b).toInt = c * b.toInt := by
  intro h1 h2
  rw [Int64.toInt_mul, hc]
  exact Int.bmod_eq_of_le (by omega) (by omega)
theorem t64 (x : Int32) : x.toInt64.toInt = x.toInt := Int32.toInt_toInt64 x
theorem lit32L : (32 : Int64).toInt = 32 := by decide
theorem lit27L : (27 : Int64).toInt = 27 := by decide
theorem lit0L : (0 : Int64).toInt = 0 := by decide
theorem lgz (x y : Int64) : (lg_cmp x y).toInt = 0 ↔ x.toInt = y.toInt := by
  unfold lg_cmp
  by_cases a : x > y
  · rw [if_pos a]
    have := Int64.lt_iff_toInt_lt.mp a
    have h1 := lit_1
    omega
  · rw [if_neg a]
    by_cases b : x = y
    · rw [if_pos b, b]
      exact ⟨fun _ => rfl, fun _ => lit_0⟩
    · rw [if_neg b]
      have h1 := lit_m1
      constructor
      · intro z; omega
      · intro z; exact absurd (Int64.toInt_inj.mp z) b
theorem b8 (x : Int32) (h1 : -128 ≤ x.toInt) (h2 : x.toInt < 128) : x.toInt8.toInt32 = x := by
  apply Int32.toInt_inj.mp
  rw [Int8.toInt_toInt32, Int32.toInt_toInt8]
  exact Int.bmod_eq_of_le (by omega) (by omega)
theorem b16 (x : Int32) (h1 : -32768 ≤ x.toInt) (h2 : x.toInt < 32768) : x.toInt16.toInt32 = x := by
  apply Int32.toInt_inj.mp
  rw [Int16.toInt_toInt32, Int32.toInt_toInt16]
  exact Int.bmod_eq_of_le (by omega) (by omega)
theorem narB (x : Int32) : vp_nar .byte x = x.toInt8.toInt32 := rfl
theorem narS (x : Int32) : vp_nar .short x = x.toInt16.toInt32 := rfl
/-! WORDS AND NUMBERS of a text -/
theorem wn_b {bs : Nat → Int} {i : Nat} {b d lo up : Int} (b0 : 1 ≤ b) (l0 : 0 ≤ lo) (lu : up + 1 ≤ b) : ∀ k, (∀ j, j < k → lo ≤ bs (i + j) - d ∧ bs (i + j) - d ≤ up) → 0 ≤ wnR b d bs i k ∧ wnR b d bs i k + 1 ≤ b ^ k := by
  intro k
  induction k with
  | zero => intro _; exact ⟨Int.le_refl 0, by show (0 : Int) + 1 ≤ b ^ 0; rw [Int.pow_zero]; decide⟩
  | succ k ih =>
    intro h
    obtain ⟨h1, h2⟩ := ih (fun j hj => h j (by omega))
    have h3 := h k (by omega)
    have e : b ^ (k + 1) = b * b ^ k := by rw [Int.pow_succ, Int.mul_comm]
    have m1 : b * (wnR b d bs i k + 1) ≤ b * b ^ k := Int.mul_le_mul_of_nonneg_left h2 (by omega)
    have m2 : 0 ≤ b * wnR b d bs i k := Int.mul_nonneg (by omega) h1
    rw [Int.mul_add, Int.mul_one] at m1
    show 0 ≤ b * wnR b d bs i k + (bs (i + k) - d) ∧ b * wnR b d bs i k + (bs (i + k) - d) + 1 ≤ b ^ (k + 1)
    rw [e]
    omega
theorem wn_32 {bs : Nat → Int} {i k : Nat} (hk : k ≤ 8) (h : ∀ j, i ≤ j → j < i + k → isLt (bs j)) : 0 ≤ wnR 32 96 bs i k ∧ wnR 32 96 bs i k ≤ 1099511627775 := by
  have a := wn_b (bs := bs) (i := i) (b := 32) (d := 96) (lo := 1) (up := 26) (by decide) (by decide) (by decide) k (fun j hj => by have := h (i + j) (by omega) (by omega); unfold isLt at this; omega)
  have b : (32 : Int) ^ k ≤ 1099511627776 := by
    rcases (show k = 0 ∨ k = 1 ∨ k = 2 ∨ k = 3 ∨ k = 4 ∨ k = 5 ∨ k = 6 ∨ k = 7 ∨ k = 8 by omega) with rfl | rfl | rfl | rfl | rfl | rfl | rfl | rfl | rfl <;> decide
  omega
theorem wn_27 {bs : Nat → Int} {i k : Nat} (hk : k ≤ 8) (h : ∀ j, i ≤ j → j < i + k → isLt (bs j)) : 0 ≤ wnR 27 96 bs i k ∧ wnR 27 96 bs i k ≤ 1099511627775 := by
  have a := wn_b (bs := bs) (i := i) (b := 27) (d := 96) (lo := 1) (up := 26) (by decide) (by decide) (by decide) k (fun j hj => by have := h (i + j) (by omega) (by omega); unfold isLt at this; omega)
  have b : (27 : Int) ^ k ≤ 1099511627776 := by
    rcases (show k = 0 ∨ k = 1 ∨ k = 2 ∨ k = 3 ∨ k = 4 ∨ k = 5 ∨ k = 6 ∨ k = 7 ∨ k = 8 by omega) with rfl | rfl | rfl | rfl | rfl | rfl | rfl | rfl | rfl <;> decide
  omega
theorem wn_10 {bs : Nat → Int} {i k : Nat} (hk : k ≤ 4) (h : ∀ j, i ≤ j → j < i + k → isDg (bs j)) : 0 ≤ wnR 10 48 bs i k ∧ wnR 10 48 bs i k ≤ 9999 := by
  have a := wn_b (bs := bs) (i := i) (b := 10) (d := 48) (lo := 0) (up := 9) (by decide) (by decide) (by decide) k (fun j hj => by have := h (i + j) (by omega) (by omega); unfold isDg at this; omega)
  have b : (10 : Int) ^ k ≤ 10000 := by
    rcases (show k = 0 ∨ k = 1 ∨ k = 2 ∨ k = 3 ∨ k = 4 by omega) with rfl | rfl | rfl | rfl | rfl <;> decide
  omega
/-- a word's number tells the word, in either base -/
theorem wn_inj {b b' : Int} (hb : 27 ≤ b) {bs bz : Nat → Int} {i i' : Nat} : ∀ k k', (∀ j, j < k → isLt (bs (i + j))) → (∀ j, j < k' → isLt (bz (i' + j))) → wnR b 96 bs i k = wnR b 96 bz i' k' → wnR b' 96 bs i k = wnR b' 96 bz i' k' := by
  have pos (bs : Nat → Int) (i : Nat) : ∀ k, (∀ j, j < k → isLt (bs (i + j))) → 0 ≤ wnR b 96 bs i k := fun k h => (wn_b (b := b) (d := 96) (lo := 1) (up := 26) (by omega) (by decide) (by omega) k (fun j hj => by have := h j hj; unfold isLt at this; omega)).1
  intro k
  induction k with
  | zero =>
    intro k' h1 h2 e
    cases k' with
    | zero => rfl
    | succ k' =>
      exfalso
      have p := pos bz i' k' (fun j hj => h2 j (by omega))
      have l := h2 k' (by omega)
      unfold isLt at l
      have e' : (0 : Int) = b * wnR b 96 bz i' k' + (bz (i' + k') - 96) := e
      have m := Int.mul_nonneg (show 0 ≤ b by omega) p
      omega
  | succ k ih =>
    intro k' h1 h2 e
    have p := pos bs i k (fun j hj => h1 j (by omega))
    have l := h1 k (by omega)
    unfold isLt at l
    have m := Int.mul_nonneg (show 0 ≤ b by omega) p
    cases k' with
    | zero =>
      exfalso
      have e' : b * wnR b 96 bs i k + (bs (i + k) - 96) = 0 := e
      omega
    | succ k' =>
      have p' := pos bz i' k' (fun j hj => h2 j (by omega))
      have l' := h2 k' (by omega)
      unfold isLt at l'
      have e' : b * wnR b 96 bs i k + (bs (i + k) - 96) = b * wnR b 96 bz i' k' + (bz (i' + k') - 96) := e
      have q1 : wnR b 96 bs i k = wnR b 96 bz i' k' := by
        rcases Int.lt_trichotomy (wnR b 96 bs i k) (wnR b 96 bz i' k') with z | z | z
        · exfalso
          have := Int.mul_le_mul_of_nonneg_left (show wnR b 96 bs i k + 1 ≤ wnR b 96 bz i' k' by omega) (show 0 ≤ b by omega)
          rw [Int.mul_add, Int.mul_one] at this
          omega
        · exact z
        · exfalso
          have := Int.mul_le_mul_of_nonneg_left (show wnR b 96 bz i' k' + 1 ≤ wnR b 96 bs i k by omega) (show 0 ≤ b by omega)
          rw [Int.mul_add, Int.mul_one] at this
          omega
      have q2 : bs (i + k) = bz (i' + k') := by rw [q1] at e'; omega
      have q3 := ih k' (fun j hj => h1 j (by omega)) (fun j hj => h2 j (by omega)) q1
      show b' * wnR b' 96 bs i k + (bs (i + k) - 96) = b' * wnR b' 96 bz i' k' + (bz (i' + k') - 96)
      rw [q2, q3]
