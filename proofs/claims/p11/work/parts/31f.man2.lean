/-! sets of cells, by hand: free ones, cells with a TUNE, those that spread, PART -/
theorem shC : ∀ c, c < 26 → ∀ i, i < 32 → bt (((1 : Int32) <<< (Int32.ofNat c &&& 31)) - 1) i = decide (i < c) := by decide +kernel
theorem bt25 : ∀ i, i < 32 → bt 33554431 i = decide (i < 25) := by decide +kernel
theorem bt_small {x : Int32} (h : ∀ i, i < 32 → bt x i = true → i < 25) : 0 ≤ x.toInt ∧ x.toInt ≤ 33554431 := by
  have e : x &&& 33554431 = x := bt_ext (fun i il => by
    rw [bt_and, bt25 i il]
    cases q : bt x i with
    | false => rfl
    | true => rw [decide_eq_true (h i il q)]; rfl)
  have := and_rg x 33554431 33554431 (by decide) (by decide)
  rw [e] at this
  exact this
theorem bt_le {x y : Int32} (h : ∀ i, i < 32 → bt x i = true → bt y i = true) (hy : 0 ≤ y.toInt) : x.toInt ≤ y.toInt := by
  have e : x &&& y = x := bt_ext (fun i il => by
    rw [bt_and]
    cases q : bt x i with
    | false => rfl
    | true => rw [h i il q]; rfl)
  have := and_rg x y y.toInt rfl hy
  rw [e] at this
  exact this.2
theorem sb_free {h0 : Hp} (s0 : rS h0) (r0 : rwO (cnN h0) (hi h0 263)) (n : Nat) (h : Hp) (hn : 1 ≤ n) (j : jD h0 h) : Ok (F_X12_freeBits n h) (fun q => q.2 = h ∧ ∀ i, i < 32 → bt q.1 i = (decide ((i : Int) < cnN h0) && !bt (hi h 263 50) i)) := by
  have f0 := cnR s0
  unfold F_X12_freeBits
  refine Ok.bind (sf_X12_cells s0 r0 n h hn j) (fun q1 hq1 => ?_)
  obtain ⟨e1, x1⟩ := hq1
  rw [e1]
  refine Ok.ret ⟨rfl, fun i il => ?_⟩
  have f1 := ncT (show 0 ≤ q1.1.toInt by omega)
  have f2 := shC (Int32.toNatClampNeg q1.1) (by omega) i il
  rw [nc32 (show 0 ≤ q1.1.toInt by omega)] at f2
  show bt (((1 : Int32) <<< (q1.1 &&& 31) - 1) &&& (hi h 263 50 ^^^ (-1))) i = _
  rw [bt_and, f2, bt_not _ il]
  congr 1
  exact decide_eq_decide.mpr (by omega)
theorem sb_tune {h0 : Hp} (s0 : rS h0) (r0 : rwO (cnN h0) (hi h0 263)) : ∀ n : Nat, ∀ (h : Hp) (l1 l2 : Int32), jD h0 h → 0 ≤ l2.toInt → l2.toInt ≤ cnN h0 → (∀ i, i < 32 → (bt l1 i = true ↔ (i : Int) < l2.toInt ∧ 0 < (hi h 263 i).toInt)) → (1 : Int) + (26 - l2.toInt) < n → Ok (W_X12_tuneBits n 4 h l1 l2) (fun q => q.2 = h ∧ ∀ i, i < 32 → (bt q.1 i = true ↔ (i : Int) < cnN h0 ∧ 0 < (hi h 263 i).toInt)) := by
  have f0 := cnR s0
  intro n
  induction n with
  | zero => intro h l1 l2 j a b c d; exfalso; omega
  | succ n ih =>
    intro h l1 l2 j a b c d
    have f1 := ncT a
    rw [u_X12_tuneBits]
    refine Ok.pos rfl ?_
    refine Ok.bind (sf_X12_cells s0 r0 n h (by omega) j) (fun q1 hq1 => ?_)
    obtain ⟨e1, x1⟩ := hq1
    rw [e1]
    refine Ok.le (fun c1 => ?_) (fun c1 => ?_)
    · refine Ok.ret ⟨rfl, fun i il => ?_⟩
      show bt l1 i = true ↔ _
      rw [c i il]
      constructor
      · intro q; exact ⟨by omega, q.2⟩
      · intro q; exact ⟨by omega, q.2⟩
    · refine Ok.chk (ixT (by omega) (by omega)) (fun c2 => ?_)
      have f2 := adT l2 1
      have f3 := lit_1
      have f4 := lit_0
      refine Ok.le (fun c3 => ?_) (fun c3 => ?_)
      · refine ih h l1 (l2 + 1) j (by omega) (by omega) (fun i il => ?_) (by omega)
        rw [c i il]
        constructor
        · intro q; exact ⟨by omega, q.2⟩
        · intro q
          refine ⟨?_, q.2⟩
          by_cases z : i = Int32.toNatClampNeg l2
          · have := q.2; rw [z] at this; omega
          · omega
      · refine ih h _ (l2 + 1) j (by omega) (by omega) (fun i il => ?_) (by omega)
        rw [bt_add (v := Int32.toNatClampNeg l2) (by omega) (by omega), Bool.or_eq_true, decide_eq_true_eq, c i il]
        constructor
        · rintro (q | q)
          · exact ⟨by omega, q.2⟩
          · subst q; exact ⟨by omega, by omega⟩
        · intro q
          by_cases z : i = Int32.toNatClampNeg l2
          · exact Or.inr z
          · exact Or.inl ⟨by omega, q.2⟩
theorem sb_X12_tuneBits {h0 : Hp} (s0 : rS h0) (r0 : rwO (cnN h0) (hi h0 263)) (n : Nat) (h : Hp) (hn : 100 ≤ n) (j : jD h0 h) : Ok (F_X12_tuneBits n h) (fun q => q.2 = h ∧ ∀ i, i < 32 → (bt q.1 i = true ↔ (i : Int) < cnN h0 ∧ 0 < (hi h 263 i).toInt)) := by
  have f0 := cnR s0
  have f1 := lit_0
  unfold F_X12_tuneBits
  refine sb_tune s0 r0 n h 0 0 j (by omega) (by omega) (fun i il => ?_) (by omega)
  rw [bt_zero]
  constructor
  · intro q; cases q
  · intro q; omega
set_option maxHeartbeats 4000000 in
theorem sb_spread {h0 : Hp} (s0 : rS h0) (r0 : rwO (cnN h0) (hi h0 263)) : ∀ n : Nat, ∀ (h : Hp) (l1 l2 l3 : Int32), jD h0 h → 0 ≤ l3.toInt → (∀ i, i < 32 → (bt l1 i = true ↔ (i : Int) < cnN h0 ∧ 0 < (hi h0 263 i).toInt)) → (∀ i, i < 32 → bt l2 i = true → (i : Int) + 1 < cnN h0 ∧ 0 < (hi h0 263 i).toInt) → (17179869185 : Int) < n → (17179869185 : Int) + (26 - l3.toInt) < n → Ok (W_X12_spreadBits n 9 h l1 l2 l3) (fun q => jD h0 q.2 ∧ ∀ i, i < 32 → bt q.1 i = true → (i : Int) + 1 < cnN h0 ∧ 0 < (hi h0 263 i).toInt) := by
  have f0 := cnR s0
  intro n
  induction n with
  | zero => intro h l1 l2 l3 j a b c e d; exfalso; omega
  | succ n ih =>
    intro h l1 l2 l3 j a b c e d
    have f1 := ncT a
    rw [u_X12_spreadBits]
    refine Ok.pos rfl ?_
    refine Ok.bind (sf_X12_cells s0 r0 n h (by omega) j) (fun q1 hq1 => ?_)
    obtain ⟨e1, x1⟩ := hq1
    rw [e1]
    refine Ok.le (fun c1 => Ok.ret ⟨j, c⟩) (fun c1 => ?_)
    have f2 := adT l3 1
    have f3 := lit_1
    have f4 := lit_0
    have m1 := mlT 5 l3 5 lit_5
    have m2 := adT (5 * l3) 1
    have f5 := lit_5
    have k1 : (5 * l3 + 1 : Int32).toInt = 5 * l3.toInt + 1 := by omega
    have k2 : Int32.toNatClampNeg (5 * l3 + 1) = 5 * Int32.toNatClampNeg l3 + 1 := by
      have := ncT (show 0 ≤ (5 * l3 + 1 : Int32).toInt by omega)
      omega
    refine Ok.chk (ixT (by omega) (by omega)) (fun c2 => ?_)
    have go (hh : Hp) (jj : jD h0 hh) : (1 : Nat) ≤ 1 → Ok (W_X12_spreadBits n 9 hh l1 l2 (l3 + 1)) (fun q => jD h0 q.2 ∧ ∀ i, i < 32 → bt q.1 i = true → (i : Int) + 1 < cnN h0 ∧ 0 < (hi h0 263 i).toInt) := fun _ => ih hh l1 l2 (l3 + 1) jj (by omega) b c (by omega) (by omega)
    refine Ok.ite (fun _ => go h j (Nat.le_refl 1)) (fun c3 => ?_)
    have z := btS0 l1 a (by omega)
    have c4 : bt l1 (Int32.toNatClampNeg l3) = true := by
      cases q : bt l1 (Int32.toNatClampNeg l3) with
      | true => rfl
      | false => exact absurd (Int32.toInt_inj.mp ((z.mpr q).trans lit_0.symm)) c3
    have k3 := sdE s0 j.ks (c := Int32.toNatClampNeg l3) (k := 1) (by omega) (by decide)
    have k4 := sdv_at s0 (c := Int32.toNatClampNeg l3) (k := 1) (by omega) (by decide)
    rw [← k2] at k3
    refine Ok.ite (fun _ => go h j (Nat.le_refl 1)) (fun c5 => ?_)
    have z2 := btS1 l1 (c := hi h 264 (Int32.toNatClampNeg (5 * l3 + 1))) (by omega) (by have := k4.1; omega)
    have k5 : (Int32.toNatClampNeg l3 : Int) + 1 < cnN h0 := by
      rcases k4.2.2.2 rfl with q | q
      · exfalso
        apply c5
        apply Int32.toInt_inj.mp
        rw [lit_1]
        apply z2.mpr
        have := ncT (show 0 ≤ (hi h 264 (Int32.toNatClampNeg (5 * l3 + 1))).toInt by omega)
        rw [show Int32.toNatClampNeg (hi h 264 (Int32.toNatClampNeg (5 * l3 + 1))) = Int32.toNatClampNeg l3 by omega]
        exact c4
      · have := k4.1; omega
    refine Ok.bind (sf_X12_toldOf s0 r0 n h l3 0 0 2 0 (by omega) j a (by omega) (by decide) (by decide)) (fun q7 hq7 => ?_)
    refine Ok.ite (fun _ => go q7.2 hq7.1 (Nat.le_refl 1)) (fun _ => ?_)
    refine Ok.bind (sf_X12_lotOf s0 r0 n q7.2 _ (by omega) hq7.1) (fun q10 hq10 => ?_)
    rw [hq10.1]
    have f6 := liR s0 hq7.1.ks
    refine Ok.chk (ixT (by omega) (by omega)) (fun c6 => ?_)
    refine Ok.ite (fun _ => go q7.2 hq7.1 (Nat.le_refl 1)) (fun _ => ?_)
    refine ih q7.2 l1 _ (l3 + 1) hq7.1 (by omega) b (fun i il q => ?_) (by omega) (by omega)
    rw [bt_add (v := Int32.toNatClampNeg l3) (by omega) (by omega), Bool.or_eq_true, decide_eq_true_eq] at q
    rcases q with q | q
    · exact c i il q
    · subst q
      exact ⟨k5, ((b _ il).mp c4).2⟩
theorem sf_X12_spreadBits {h0 : Hp} (s0 : rS h0) (r0 : rwO (cnN h0) (hi h0 263)) (n : Nat) (h : Hp) (hn : 17179869300 ≤ n) (j : jD h0 h) : Ok (F_X12_spreadBits n h) (fun q => jD h0 q.2 ∧ ∀ i, i < 32 → bt q.1 i = true → (i : Int) + 1 < cnN h0 ∧ 0 < (hi h0 263 i).toInt) := by
  have f1 := lit_0
  unfold F_X12_spreadBits
  refine Ok.bind (sb_X12_tuneBits s0 r0 n h (by omega) j) (fun q1 hq1 => ?_)
  obtain ⟨e1, x1⟩ := hq1
  rw [e1]
  have k1 : hi h 263 = hi h0 263 := j.at 263 (fun _ => rfl)
  rw [k1] at x1
  exact sb_spread s0 r0 n h q1.1 0 0 j (by omega) x1 (fun i il q => by rw [bt_zero] at q; cases q) (by omega) (by omega)
/-! PART -/
set_option maxHeartbeats 4000000 in
theorem sb_part {h0 : Hp} (s0 : rS h0) (r0 : rwO (cnN h0) (hi h0 263)) {h : Hp} (j : jD h0 h) {x1 x2 o : Int32} : ∀ n : Nat, ∀ l4 l5 : Int32, (∀ i, i < 32 → bt l4 i = true → (i : Int) < cnN h0 ∧ bt (hi h 263 50) i = false ∧ bt o i = false) → (300 : Int) + 2 * (67108864 - l4.toInt) + (if l4 = l5 then 0 else 1) < n → Ok (W_X12_isParted n 8 h x1 x2 o l4 l5) (fun q => q.2 = h ∧ True) := by
  have f0 := cnR s0
  intro n
  induction n with
  | zero =>
    intro l4 l5 a b
    exfalso
    have := bt_small (x := l4) (fun i il q => by have := (a i il q).1; omega)
    split at b <;> omega
  | succ n ih =>
    intro l4 l5 a b
    have s1 := bt_small (x := l4) (fun i il q => by have := (a i il q).1; omega)
    rw [u_X12_isParted]
    refine Ok.pos rfl ?_
    refine Ok.ite (fun _ => Ok.ite (fun _ => Ok.ret ⟨rfl, trivial⟩) (fun _ => Ok.ret ⟨rfl, trivial⟩)) (fun c1 => ?_)
    rw [if_neg c1] at b
    refine Ok.bind (sf_X12_nearBits s0 r0 n h l4 (by omega) j) (fun q3 hq3 => ?_)
    obtain ⟨e3, x3⟩ := hq3
    rw [e3]
    refine Ok.bind (sb_free s0 r0 n h (by omega) j) (fun q5 hq5 => ?_)
    obtain ⟨e5, x5⟩ := hq5
    rw [e5]
    have a2 : ∀ i, i < 32 → bt (q3.1 &&& q5.1 &&& (o ^^^ (-1))) i = true → (i : Int) < cnN h0 ∧ bt (hi h 263 50) i = false ∧ bt o i = false := by
      intro i il q
      rw [bt_and, bt_and, x5 i il, bt_not _ il] at q
      simp only [Bool.and_eq_true, decide_eq_true_eq, Bool.not_eq_true'] at q
      exact ⟨q.1.2.1, q.1.2.2, q.2⟩
    have sub : ∀ i, i < 32 → bt l4 i = true → bt (q3.1 &&& q5.1 &&& (o ^^^ (-1))) i = true := by
      intro i il q
      obtain ⟨q1, q2, q4⟩ := a i il q
      rw [bt_and, bt_and, x5 i il, bt_not _ il, decide_eq_true q1, q2, q4]
      have : bt q3.1 i = true := (x3 i il).mpr ⟨i, 0, by omega, by decide, q, (sdv_at s0 q1 (by decide)).2.2.1 rfl⟩
      rw [this]
      rfl
    have s2 := bt_small (x := q3.1 &&& q5.1 &&& (o ^^^ (-1))) (fun i il q => by have := (a2 i il q).1; omega)
    have s3 := bt_le sub s2.1
    refine ih _ l4 a2 ?_
    by_cases z : (q3.1 &&& q5.1 &&& (o ^^^ (-1))) = l4
    · rw [if_pos z, z]; omega
    · rw [if_neg z]
      have : (q3.1 &&& q5.1 &&& (o ^^^ (-1))).toInt ≠ l4.toInt := fun q => z (Int32.toInt_inj.mp q)
      omega
theorem sf_X12_isParted {h0 : Hp} (s0 : rS h0) (r0 : rwO (cnN h0) (hi h0 263)) (n : Nat) (h : Hp) (x1 x2 x3 : Int32) (hn : 17179869184 ≤ n) (j : jD h0 h) (p0 : 0 ≤ x1.toInt) (p1 : x1.toInt < cnN h0) (p2 : bt (hi h 263 50) (Int32.toNatClampNeg x1) = false) (p3 : bt x3 (Int32.toNatClampNeg x1) = false) : Ok (F_X12_isParted n h x1 x2 x3) (fun q => q.2 = h ∧ True) := by
  have f0 := cnR s0
  have f1 := ncT p0
  unfold F_X12_isParted
  have a : ∀ i, i < 32 → bt ((1 : Int32) <<< (x1 &&& 31)) i = true → (i : Int) < cnN h0 ∧ bt (hi h 263 50) i = false ∧ bt x3 i = false := by
    intro i il q
    rw [btL p0 (by omega), decide_eq_true_eq] at q
    subst q
    exact ⟨by omega, p2, p3⟩
  have s1 := bt_small (fun i il q => by have := (a i il q).1; omega)
  refine sb_part s0 r0 j n _ 0 a ?_
  split <;> omega
theorem bN1 {a f : Int32} (a0 : 0 ≤ a.toInt) (a1 : a.toInt < 32) (f0 : 0 ≤ f.toInt) (nn : a.toInt ≠ f.toInt) : bt ((1 : Int32) <<< (a &&& 31)) (Int32.toNatClampNeg f) = false := by
  rw [btL a0 a1]
  have h1 := ncT a0
  have h2 := ncT f0
  exact decide_eq_false (by omega)
theorem bNo {x y : Int32} {i : Nat} (h1 : bt x i = false) (h2 : bt y i = false) : bt (x ||| y) i = false := by
  rw [bt_or, h1, h2]
  rfl
