/-! WHAT IS HELD: the same rows of both -/
def HLD (c G : Nat) (h : Hp) : Prop := ∀ j, j < 3 → hi h 273 j ≠ 0 → SCR c G (rwU h 274 j) (214 + 4 * j) h ∧ RVR c G (rwU h 274 j)
section R56D
variable {c G : Nat} {h q : Hp} {n : Nat} {x1 : Int32}
def HC (x1 : Int32) (h : Hp) (q : Int32 × Hp) : Prop := (¬ (0 ≤ x1.toInt ∧ x1.toInt < 3) ∧ q.2 = h) ∨ ∃ j : Nat, (j < 3 ∧ x1.toInt = (j : Int)) ∧ ((∀ k, k < 4 → hi q.2 (214 + 4 * j) k = hi h 30 k) ∧ (∀ k, k < 25 → hi q.2 (214 + 4 * j + 1) k = hi h 31 k) ∧ (∀ k, k < 5 → hi q.2 (214 + 4 * j + 2) k = hi h 32 k) ∧ ∀ k, k < 5 → hi q.2 (214 + 4 * j + 3) k = hi h 33 k) ∧ ∀ a k, a ≠ 0 → ¬ (214 + 4 * j ≤ a ∧ a ≤ 214 + 4 * j + 3) → hi q.2 a k = hi h a k
def HR (x1 : Int32) (h : Hp) (q : Int32 × Hp) : Prop := (¬ (0 ≤ x1.toInt ∧ x1.toInt < 3) ∧ q.2 = h) ∨ ∃ j : Nat, (j < 3 ∧ x1.toInt = (j : Int)) ∧ (∀ k, k < 63 → hi q.2 274 (63 * j + k) = hi h 262 k) ∧ (∀ k, ¬ (63 * j ≤ k ∧ k < 63 * j + 63) → hi q.2 274 k = hi h 274 k) ∧ (∀ k, k ≠ j → hi q.2 273 k = hi h 273 k) ∧ ∀ a k, a ≠ 273 → a ≠ 274 → hi q.2 a k = hi h a k
theorem hc_hold : Pc (F_X11_hold n h x1) (HC x1 h) := by
  have f0 := lit_0
  have f3 := lit_3
  unfold F_X11_hold
  refine Pc.lt (fun c1 => Pc.ret (Or.inl ⟨by omega, rfl⟩)) (fun c1 => ?_)
  refine Pc.lt (fun c2 => Pc.chk (fun _ => ?_)) (fun c2 => Pc.ret (Or.inl ⟨by omega, rfl⟩))
  have n1 := ncT (show 0 ≤ x1.toInt by omega)
  generalize Int32.toNatClampNeg x1 = j at n1
  refine Pc.bind (fun y e => And.intro (bcm8 (a := 214 + 4 * j) (b := 30) (by omega) y e) (zf_X8_become y e)) (fun q4 hq => ?_)
  obtain ⟨⟨b1, b2, b3, b4⟩, z⟩ := hq
  generalize eg : wrI q4 0 10 (hi q4 0 10 ||| ((1 : Int32) <<< (x1 &&& 31))) = g
  have gg (a k : Nat) (ne : a ≠ 0) : hi g a k = hi q4 a k := hiA eg a k ne
  refine Pc.ret (Or.inr ⟨j, ⟨by omega, by omega⟩, ⟨fun k hk => ?_, fun k hk => ?_, fun k hk => ?_, fun k hk => ?_⟩, fun a k h1 h2 => ?_⟩)
  · exact (gg _ k (by omega)).trans (b1 k hk)
  · exact (gg _ k (by omega)).trans (b2 k hk)
  · exact (gg _ k (by omega)).trans (b3 k hk)
  · exact (gg _ k (by omega)).trans (b4 k hk)
  · exact (gg a k h1).trans (z.1 a k (by omega))
theorem hr_20 {h0 : Hp} {j : Nat} (j3 : j < 3) {l1 : Int32} (hl : l1.toInt = (j : Int)) : ∀ (n : Nat) (h : Hp) (l2 : Int32) (i : Nat), l2.toInt = (i : Int) → i ≤ 63 → (∀ a k, a ≠ 274 → hi h a k = hi h0 a k) → (∀ k, k < i → hi h 274 (63 * j + k) = hi h0 262 k) → (∀ k, ¬ (63 * j ≤ k ∧ k < 63 * j + 63) → hi h 274 k = hi h0 274 k) → Pc (W_X12_hold n 20 h l1 l2) (fun q => (∀ a k, a ≠ 274 → hi q.2 a k = hi h0 a k) ∧ (∀ k, k < 63 → hi q.2 274 (63 * j + k) = hi h0 262 k) ∧ ∀ k, ¬ (63 * j ≤ k ∧ k < 63 * j + 63) → hi q.2 274 k = hi h0 274 k) := by
  intro n
  induction n with
  | zero => intro h l2 i a b c e f; exact Pc.no
  | succ n ih =>
    intro h l2 i a b c e f
    have f63 := lit_63
    have f1 := lit_1
    rw [u_X12_hold]
    refine Pc.pos rfl ?_
    refine Pc.le (fun c1 => Pc.ret ⟨c, fun k hk => e k (by omega), f⟩) (fun c1 => Pc.chk (fun _ => Pc.chk (fun _ => ?_)))
    have m63 := mlT 63 l1 63 lit_63 (by omega) (by omega)
    have a2 := adT (63 * l1) l2 (by omega) (by omega)
    have n1 := ncT (show 0 ≤ l2.toInt by omega)
    have n2 : Int32.toNatClampNeg l2 = i := by omega
    have n3 := ncT (show 0 ≤ (63 * l1 + l2).toInt by omega)
    have n4 : Int32.toNatClampNeg (63 * l1 + l2) = 63 * j + i := by omega
    have a1 := adT l2 1 (by omega) (by omega)
    rw [n2, n4]
    refine ih _ (l2 + 1) (i + 1) (by omega) (by omega) (fun a k ne => by rw [hi_wrI, if_neg (fun z => ne z.1)]; exact c a k ne) (fun k hk => ?_) (fun k hk => ?_)
    · rw [hi_wrI]
      by_cases y : k = i
      · rw [if_pos ⟨rfl, by omega⟩, y]; exact c 262 i (by decide)
      · rw [if_neg (by omega)]; exact e k (by omega)
    · rw [hi_wrI, if_neg (by omega)]; exact f k hk
theorem hr_hold : Pc (F_X12_hold n h x1) (HR x1 h) := by
  have f0 := lit_0
  have f2 := lit_2
  unfold F_X12_hold
  refine Pc.bind ez_in (fun q4 h4 => ?_)
  obtain ⟨t1, t2⟩ := h4
  refine Pc.eq (fun c1 => Pc.ret (Or.inl ⟨by omega, t1⟩)) (fun c1 => Pc.chk (fun _ => ?_))
  rw [t1]
  have r := t2.mp (fun z => c1 (z.trans f0.symm))
  have n1 := ncT (show 0 ≤ x1.toInt by omega)
  obtain ⟨j, hj⟩ : ∃ j : Nat, x1.toInt = (j : Int) := ⟨x1.toInt.toNat, by omega⟩
  have n2 : Int32.toNatClampNeg x1 = j := by omega
  rw [n2]
  generalize eg : wrI h 273 j 1 = g
  have gg (a k : Nat) (ne : a ≠ 273) : hi g a k = hi h a k := hiA eg a k ne
  refine (hr_20 (h0 := g) (j := j) (by omega) hj n g 0 0 f0 (by decide) (fun _ _ _ => rfl) (fun k hk => absurd hk (Nat.not_lt_zero k)) (fun _ _ => rfl)).mono (fun q hq => ?_)
  obtain ⟨k1, k2, k3⟩ := hq
  refine Or.inr ⟨j, ⟨by omega, hj⟩, fun k hk => ?_, fun k hk => ?_, fun k ne => ?_, fun a k h1 h2 => ?_⟩
  · rw [k2 k hk]; exact gg 262 k (by decide)
  · rw [k3 k hk]; exact gg 274 k (by decide)
  · rw [k1 273 k (by decide)]; exact hiK eg 273 k ne
  · rw [k1 a k h2]; exact gg a k h1
/-- one more row is held -/
theorem HLD.hold {h0 : Hp} {qc qr : Int32 × Hp} (x : HLD c G h0) (c25 : c ≤ 25) (G5 : G ≤ 5) (s : SCR c G (hi h0 262) 30 h0) (r : RVR c G (hi h0 262)) (hc : HC x1 h0 qc) (hr : HR x1 qc.2 qr) (e0 : ∀ a k, 226 ≤ a → hi qc.2 a k = hi h0 a k) (e1 : ∀ a k, a < 226 → hi qr.2 a k = hi qc.2 a k) : HLD c G qr.2 := by
  rcases hc with ⟨z, u⟩ | ⟨j, ⟨j3, hj⟩, ⟨b1, b2, b3, b4⟩, b5⟩
  · rcases hr with ⟨-, w⟩ | ⟨j, ⟨j3, hj⟩, -⟩
    · rw [w, u]; exact x
    · exfalso; omega
  · rcases hr with ⟨z, -⟩ | ⟨j', ⟨j3', hj'⟩, d1, d2, d3, d4⟩
    · exfalso; omega
    · have ej : j' = j := by omega
      subst ej
      intro i i3 hi'
      by_cases y : i = j'
      · subst y
        have row (k : Nat) (hk : k < 63) : rwU qr.2 274 i k = hi h0 262 k := (d1 k hk).trans (e0 262 k (by decide))
        refine ⟨(s.to c25 G5 (b := 214 + 4 * i) (fun k hk => ?_) (fun k hk => ?_) (fun k hk => ?_) (fun k hk => ?_)).cg c25 G5 row, r.cg G5 (fun k hk => row k (by omega))⟩
        · rw [e1 _ k (by omega)]; exact b1 k hk
        · rw [e1 _ k (by omega)]; exact b2 k hk
        · rw [e1 _ k (by omega)]; exact b3 k hk
        · rw [e1 _ k (by omega)]; exact b4 k hk
      · rw [d3 i y, e0 273 i (by decide)] at hi'
        obtain ⟨s1, r1⟩ := x i i3 hi'
        have row (k : Nat) (hk : k < 63) : rwU qr.2 274 i k = rwU h0 274 i k := (d2 _ (by omega)).trans (e0 274 _ (by decide))
        have fr (a k : Nat) (h1 : 214 + 4 * i ≤ a) (h2 : a ≤ 214 + 4 * i + 3) : hi qr.2 a k = hi h0 a k := by
          rw [e1 a k (by omega)]
          exact b5 a k (by omega) (by omega)
        exact ⟨(s1.to c25 G5 (b := 214 + 4 * i) (fun k _ => fr _ k (by omega) (by omega)) (fun k _ => fr _ k (by omega) (by omega)) (fun k _ => fr _ k (by omega) (by omega)) (fun k _ => fr _ k (by omega) (by omega))).cg c25 G5 row, r1.cg G5 (fun k hk => row k (by omega))⟩
theorem HLD.same {h0 : Hp} (x : HLD c G h0) (c25 : c ≤ 25) (G5 : G ≤ 5) (e1 : ∀ a k, 214 ≤ a → a < 226 → hi q a k = hi h0 a k) (e2 : ∀ k, hi q 273 k = hi h0 273 k) (e4 : ∀ k, hi q 274 k = hi h0 274 k) : HLD c G q := by
  intro i i3 hi'
  rw [e2 i] at hi'
  obtain ⟨s1, r1⟩ := x i i3 hi'
  have row (k : Nat) (_ : k < 63) : rwU q 274 i k = rwU h0 274 i k := e4 _
  have fr (a k : Nat) (h1 : 214 + 4 * i ≤ a) (h2 : a ≤ 214 + 4 * i + 3) : hi q a k = hi h0 a k := e1 a k (by omega) (by omega)
  exact ⟨(s1.to c25 G5 (b := 214 + 4 * i) (fun k _ => fr _ k (by omega) (by omega)) (fun k _ => fr _ k (by omega) (by omega)) (fun k _ => fr _ k (by omega) (by omega)) (fun k _ => fr _ k (by omega) (by omega))).cg c25 G5 row, r1.cg G5 (fun k hk => row k (by omega))⟩
/-! what was held comes back -/
def SCc (x1 : Int32) (h : Hp) (q : Int32 × Hp) : Prop := (q.1 = 0 ∧ q.2 = h) ∨ (q.1 = 1 ∧ ∃ j : Nat, (j < 3 ∧ x1.toInt = (j : Int)) ∧ hi q.2 38 2 = 0 ∧ ((∀ k, k < 4 → hi q.2 30 k = hi h (214 + 4 * j) k) ∧ (∀ k, k < 25 → hi q.2 31 k = hi h (214 + 4 * j + 1) k) ∧ (∀ k, k < 5 → hi q.2 32 k = hi h (214 + 4 * j + 2) k) ∧ ∀ k, k < 5 → hi q.2 33 k = hi h (214 + 4 * j + 3) k) ∧ ∀ a k, ¬ (a = 38 ∧ k = 2) → ¬ (30 ≤ a ∧ a ≤ 33) → hi q.2 a k = hi h a k)
def SR12 (x1 : Int32) (h : Hp) (q : Int32 × Hp) : Prop := (q.1 = 0 ∧ q.2 = h) ∨ (q.1 = 1 ∧ ∃ j : Nat, (j < 3 ∧ x1.toInt = (j : Int)) ∧ hi h 273 j ≠ 0 ∧ hi q.2 226 59 = 0 ∧ (∀ k, k < 63 → hi q.2 262 k = hi h 274 (63 * j + k)) ∧ ∀ a k, a ≠ 262 → ¬ (a = 226 ∧ k = 59) → hi q.2 a k = hi h a k)
theorem sc_rest : Pc (F_X11_restore n h x1) (SCc x1 h) := by
  have f0 := lit_0
  have f3 := lit_3
  unfold F_X11_restore
  refine Pc.lt (fun c1 => Pc.ret (Or.inl ⟨rfl, rfl⟩)) (fun c1 => ?_)
  refine Pc.le (fun c2 => Pc.ret (Or.inl ⟨rfl, rfl⟩)) (fun c2 => ?_)
  refine Pc.ite (fun c3 => Pc.ret (Or.inl ⟨rfl, rfl⟩)) (fun c3 => Pc.chk (fun _ => ?_))
  have n1 := ncT (show 0 ≤ x1.toInt by omega)
  generalize Int32.toNatClampNeg x1 = j at n1
  refine Pc.bind (fun y e => And.intro (bcm8 (a := 30) (b := 214 + 4 * j) (by omega) y e) (zf_X8_become y e)) (fun q5 hq => ?_)
  obtain ⟨⟨b1, b2, b3, b4⟩, z⟩ := hq
  unfold F_X6_clear
  generalize eg : wrI q5 38 2 0 = g
  have gg (a k : Nat) (ne : ¬ (a = 38 ∧ k = 2)) : hi g a k = hi q5 a k := by rw [← eg, hi_wrI, if_neg ne]
  exact Pc.ret (Or.inr ⟨rfl, j, ⟨by omega, by omega⟩, hiE eg, ⟨fun k hk => (gg 30 k (by omega)).trans (b1 k hk), fun k hk => (gg 31 k (by omega)).trans (b2 k hk), fun k hk => (gg 32 k (by omega)).trans (b3 k hk), fun k hk => (gg 33 k (by omega)).trans (b4 k hk)⟩, fun a k h1 h2 => (gg a k h1).trans (z.1 a k (by omega))⟩)
theorem sr_22 {h0 : Hp} {j : Nat} (j3 : j < 3) {l1 : Int32} (hl : l1.toInt = (j : Int)) : ∀ (n : Nat) (h : Hp) (l2 : Int32) (i : Nat), l2.toInt = (i : Int) → i ≤ 63 → (∀ a k, a ≠ 262 → hi h a k = hi h0 a k) → (∀ k, k < i → hi h 262 k = hi h0 274 (63 * j + k)) → Pc (W_X12_restore n 22 h l1 l2) (fun q => q.1 = 1 ∧ hi q.2 226 59 = 0 ∧ (∀ a k, a ≠ 262 → ¬ (a = 226 ∧ k = 59) → hi q.2 a k = hi h0 a k) ∧ ∀ k, k < 63 → hi q.2 262 k = hi h0 274 (63 * j + k)) := by
  intro n
  induction n with
  | zero => intro h l2 i a b c e; exact Pc.no
  | succ n ih =>
    intro h l2 i a b c e
    have f63 := lit_63
    have f1 := lit_1
    rw [u_X12_restore]
    refine Pc.pos rfl ?_
    refine Pc.le (fun c1 => Pc.ret ⟨rfl, ?_, fun a k h1 h2 => ?_, fun k hk => ?_⟩) (fun c1 => Pc.chk (fun _ => Pc.chk (fun _ => ?_)))
    · show hi (wrI h 226 59 0) 226 59 = 0
      rw [hi_wrI, if_pos ⟨rfl, rfl⟩]
    · show hi (wrI h 226 59 0) a k = _
      rw [hi_wrI, if_neg h2]; exact c a k h1
    · show hi (wrI h 226 59 0) 262 k = _
      rw [hi_wrI, if_neg (by omega)]; exact e k (by omega)
    have m63 := mlT 63 l1 63 lit_63 (by omega) (by omega)
    have a2 := adT (63 * l1) l2 (by omega) (by omega)
    have n1 := ncT (show 0 ≤ l2.toInt by omega)
    have n2 : Int32.toNatClampNeg l2 = i := by omega
    have n3 := ncT (show 0 ≤ (63 * l1 + l2).toInt by omega)
    have n4 : Int32.toNatClampNeg (63 * l1 + l2) = 63 * j + i := by omega
    have a1 := adT l2 1 (by omega) (by omega)
    rw [n2, n4]
    refine ih _ (l2 + 1) (i + 1) (by omega) (by omega) (fun a k ne => by rw [hi_wrI, if_neg (fun z => ne z.1)]; exact c a k ne) (fun k hk => ?_)
    rw [hi_wrI]
    by_cases y : k = i
    · rw [if_pos ⟨rfl, y⟩, y]; exact c 274 _ (by decide)
    · rw [if_neg (fun z => y z.2)]; exact e k (by omega)
theorem sr_rest : Pc (F_X12_restore n h x1) (SR12 x1 h) := by
  have f0 := lit_0
  have f2 := lit_2
  unfold F_X12_restore
  refine Pc.bind ez_in (fun q4 h4 => ?_)
  obtain ⟨t1, t2⟩ := h4
  refine Pc.eq (fun c1 => Pc.ret (Or.inl ⟨rfl, t1⟩)) (fun c1 => Pc.chk (fun _ => ?_))
  rw [t1]
  have r := t2.mp (fun z => c1 (z.trans f0.symm))
  have n1 := ncT (show 0 ≤ x1.toInt by omega)
  obtain ⟨j, hj⟩ : ∃ j : Nat, x1.toInt = (j : Int) := ⟨x1.toInt.toNat, by omega⟩
  have n2 : Int32.toNatClampNeg x1 = j := by omega
  rw [n2]
  refine Pc.ite (fun c3 => Pc.ret (Or.inl ⟨rfl, rfl⟩)) (fun c3 => ?_)
  have nz : hi h 273 j ≠ 0 := fun z => c3 (by rw [z]; decide)
  refine (sr_22 (h0 := h) (j := j) (by omega) hj n h 0 0 f0 (by decide) (fun _ _ _ => rfl) (fun k hk => absurd hk (Nat.not_lt_zero k))).mono (fun q hq => ?_)
  obtain ⟨k1, k2, k3, k4⟩ := hq
  exact Or.inr ⟨k1, j, ⟨by omega, hj⟩, nz, k2, k4, k3⟩
end R56D
