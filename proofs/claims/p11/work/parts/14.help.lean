/-! small helps for laid rows -/
def rfT : List (List (Nat × Nat)) := (List.range 275).map (fun a => (rfL.filter (fun q => q.1 == a)).map (fun q => q.2))
/-- what the reference fields and rows of references hold, once both systems are made -/
def R0 (a k : Nat) : Option Nat := (rfL.find? (fun q => q.1 == a && q.2.1 == k)).map (fun q => q.2.2)
/-- both systems are made -/
def G (h : Hp) : Prop := hn h = 275 ∧ ∀ q ∈ rfL, hr h q.1 q.2.1 = some q.2.2
theorem ltG {h : Hp} {a : Nat} (hG : G h) (h1 : a < 275) : a < hn h := by rw [hG.1]; exact h1
theorem rG {h : Hp} {a k q : Nat} (hG : G h) (e : R0 a k = some q) : hr h a k = some q := by
  unfold R0 at e
  obtain ⟨z, hz, rfl⟩ := Option.map_eq_some_iff.mp e
  have h1 := List.find?_some hz
  have h2 := List.mem_of_find?_eq_some hz
  simp only [Bool.and_eq_true, beq_iff_eq] at h1
  rw [← h1.1, ← h1.2]
  exact hG.2 z h2
def ixB (i : Int32) (n j : Nat) : Bool := decide (0 ≤ i) && decide (i.toNatClampNeg < n) && (i.toNatClampNeg == j)
theorem ixK {i : Int32} {n : Nat} (j : Nat) (h : ixB i n j = true) : ix i n j := by
  simp only [ixB, Bool.and_eq_true, decide_eq_true_eq, beq_iff_eq] at h
  refine ⟨fun q => ?_, h.2⟩
  rcases q with q | q
  · have h1 := Int32.le_iff_toInt_le.mp h.1.1
    have h2 := Int32.lt_iff_toInt_lt.mp q
    omega
  · omega
def nlB (la : List (Option Value)) : Nat → Bool
  | 0 => true
  | j + 1 => match la[j]? with
    | some (some (.long _)) => false
    | some (some (.double _)) => false
    | _ => true
theorem nlT {la : List (Option Value)} {i : Nat} (h : nlB la i = true) : nlA la i := by
  intro j w hj hw
  subst hj
  simp only [nlB, hw] at h
  cases w <;> first | rfl | (simp at h; done)
/-- an answer that leaves the cells as they are -/
abbrev Kp (M : MT) (d : Nat) (as : List Value) (h : Hp) (v : Value) : Prop := Kc M d as h (fun r h' => r = some v ∧ h' = h)
/-- a cell is a scene's object, its rows behind it -/
def Sc (a : Nat) : Prop := shp a = .inl 8 ∧ shp (a + 1) = .inr (.byte, 25) ∧ shp (a + 2) = .inr (.int, 5) ∧ shp (a + 3) = .inr (.int, 5) ∧ a + 3 < 275 ∧ R0 a 4 = some (a + 1) ∧ R0 a 5 = some (a + 2) ∧ R0 a 6 = some (a + 3)
def b2i (p : Bool) : Int32 := if p then 1 else 0
def IsFd (a : Nat) : Prop := shp a = .inl 3 ∧ a < 275
def IsLw (a : Nat) : Prop := shp a = .inl 4 ∧ shp (a + 1) = .inr (.int, 404) ∧ shp (a + 2) = .inr (.int, 4) ∧ shp (a + 3) = .inr (.int, 16) ∧ a + 3 < 275 ∧ R0 a 0 = some (a + 1) ∧ R0 a 1 = some (a + 2) ∧ R0 a 2 = some (a + 3)
def IsBd (a : Nat) : Prop := shp a = .inl 0 ∧ IsFd (a + 1) ∧ IsLw (a + 2) ∧ shp (a + 6) = .inr (.int, 9) ∧ a + 6 < 275 ∧ R0 a 0 = some (a + 1) ∧ R0 a 1 = some (a + 2) ∧ R0 a 5 = some (a + 6)
theorem vp1 {x : Int32} {n : Nat} (hn : n < 2 ^ 31) (h0 : ¬ x < 0) (h1 : ¬ Int32.ofNat n ≤ x) : vp_in x n := by
  obtain ⟨j, hj, rfl⟩ := nI_of h0
  refine vp_in_nI ?_ hn
  rcases Nat.lt_or_ge j n with q | q
  · exact q
  · exact absurd (nI_le q hj) h1
theorem vp2 {x : Int32} {n : Nat} (hn : n < 2 ^ 31) (h0 : 0 ≤ x) (h1 : ¬ Int32.ofNat n ≤ x) : vp_in x n := vp1 hn (Int32.not_lt.mpr h0) h1
theorem vp3 {x : Int32} {n : Nat} (hn : n < 2 ^ 31) (h0 : ¬ x < 0) (h1 : x < Int32.ofNat n) : vp_in x n := vp1 hn h0 (Int32.not_le.mpr h1)
theorem vp4 {x : Int32} {n : Nat} (hn : n < 2 ^ 31) (h0 : 0 ≤ x) (h1 : x < Int32.ofNat n) : vp_in x n := vp1 hn (Int32.not_lt.mpr h0) (Int32.not_le.mpr h1)
theorem G_wrI {h : Hp} {a k : Nat} {v : Int32} (hG : G h) : G (wrI h a k v) := hG
theorem G_wrL {h : Hp} {a k : Nat} {v : Int64} (hG : G h) : G (wrL h a k v) := hG
theorem G_wrA {h : Hp} {a : Nat} {f : Nat → Int32} (hG : G h) : G (wrA h a f) := hG
theorem sc_10 : Sc 10 := by unfold Sc; decide +kernel
theorem sc_30 : Sc 30 := by unfold Sc; decide +kernel
theorem sc_34 : Sc 34 := by unfold Sc; decide +kernel
theorem fd_4 : IsFd 4 := by unfold IsFd; decide +kernel
theorem fd_24 : IsFd 24 := by unfold IsFd; decide +kernel
theorem lw_5 : IsLw 5 := by unfold IsLw; decide +kernel
theorem lw_25 : IsLw 25 := by unfold IsLw; decide +kernel
theorem bd_3 : IsBd 3 := ⟨by decide +kernel, fd_4, lw_5, by decide +kernel, by decide +kernel, by decide +kernel, by decide +kernel, by decide +kernel⟩
theorem bd_23 : IsBd 23 := ⟨by decide +kernel, fd_24, lw_25, by decide +kernel, by decide +kernel, by decide +kernel, by decide +kernel, by decide +kernel⟩
