/-! THE ROW: one scene, held by both -/
/-- the class's scene at a is the row f -/
def SCR (c G : Nat) (f : Nat → Int32) (a : Nat) (h : Hp) : Prop :=
  (hi h a 0 = f 61 ∧ hi h a 1 = f 62 ∧ hi h a 2 = f 50) ∧
  (∀ b, b < 32 → (bt (hi h a 3) b = true ↔ b < c ∧ 0 < (f b).toInt)) ∧
  (∀ b, b < c → 0 < (f b).toInt → (vp_nar .byte (hi h (a + 1) b)).toInt = 8 * (f b).toInt + (f (25 + b)).toInt) ∧
  ∀ k, k < G → hi h (a + 2) k = f (51 + k) ∧ hi h (a + 3) k = f (56 + k)
/-- a row as it must be -/
def RVR (c G : Nat) (f : Nat → Int32) : Prop :=
  (∀ b, b < 25 → (c ≤ b → (f b).toInt = 0) ∧ 0 ≤ (f b).toInt ∧ (0 < (f b).toInt → (2 ≤ (f b).toInt ∧ (f b).toInt ≤ 6) ∧ 0 ≤ (f (25 + b)).toInt ∧ (f (25 + b)).toInt < (f b).toInt)) ∧
  (∀ b, b < 32 → bt (f 50) b = true → b < c) ∧
  (∀ k, k < G → (0 ≤ (f (51 + k)).toInt ∧ (f (51 + k)).toInt < (c : Int)) ∧ bt (f 50) (f (51 + k)).toInt.toNat = false) ∧
  ∀ k, G ≤ k → k < 5 → f (51 + k) = 0 ∧ f (56 + k) = 0
section R56A
variable {c G : Nat} {f g : Nat → Int32} {a : Nat} {h q : Hp}
theorem RVR.cg (x : RVR c G f) (G5 : G ≤ 5) (e : ∀ k, k < 61 → g k = f k) : RVR c G g := by
  obtain ⟨x1, x2, x3, x4⟩ := x
  refine ⟨fun b hb => ?_, fun b hb => ?_, fun k hk => ?_, fun k h1 h2 => ?_⟩
  · rw [e b (by omega), e (25 + b) (by omega)]; exact x1 b hb
  · rw [e 50 (by decide)]; exact x2 b hb
  · rw [e 50 (by decide), e (51 + k) (by omega)]; exact x3 k hk
  · rw [e (51 + k) (by omega), e (56 + k) (by omega)]; exact x4 k h1 h2
theorem SCR.cg (x : SCR c G f a h) (c25 : c ≤ 25) (G5 : G ≤ 5) (e : ∀ k, k < 63 → g k = f k) : SCR c G g a h := by
  obtain ⟨⟨x1, x2, x3⟩, x4, x5, x6⟩ := x
  refine ⟨⟨?_, ?_, ?_⟩, fun b hb => ?_, fun b hb => ?_, fun k hk => ?_⟩
  · rw [e 61 (by decide)]; exact x1
  · rw [e 62 (by decide)]; exact x2
  · rw [e 50 (by decide)]; exact x3
  · by_cases y : b < c
    · rw [e b (by omega)]; exact x4 b hb
    · exact ⟨fun z => absurd ((x4 b hb).mp z).1 y, fun z => absurd z.1 y⟩
  · rw [e b (by omega), e (25 + b) (by omega)]; exact x5 b hb
  · rw [e (51 + k) (by omega), e (56 + k) (by omega)]; exact x6 k hk
theorem SCR.to (x : SCR c G f a h) (c25 : c ≤ 25) (G5 : G ≤ 5) {b : Nat} (e1 : ∀ k, k < 4 → hi q b k = hi h a k) (e2 : ∀ k, k < 25 → hi q (b + 1) k = hi h (a + 1) k) (e3 : ∀ k, k < 5 → hi q (b + 2) k = hi h (a + 2) k) (e4 : ∀ k, k < 5 → hi q (b + 3) k = hi h (a + 3) k) : SCR c G f b q := by
  obtain ⟨⟨x1, x2, x3⟩, x4, x5, x6⟩ := x
  refine ⟨⟨?_, ?_, ?_⟩, fun i hi' => ?_, fun i hi' => ?_, fun k hk => ?_⟩
  · rw [e1 0 (by decide)]; exact x1
  · rw [e1 1 (by decide)]; exact x2
  · rw [e1 2 (by decide)]; exact x3
  · rw [e1 3 (by decide)]; exact x4 i hi'
  · rw [e2 i (by omega)]; exact x5 i hi'
  · rw [e3 k (by omega), e4 k (by omega)]; exact x6 k hk
/-- what a text tells, both have as one row -/
theorem env_row {T : TT} (v : VT T) (vl : VLw T) (x : SCF T a h) (y : RWF T f) : SCR (wT T * gT T) T.go.length f a h ∧ RVR (wT T * gT T) T.go.length f := by
  obtain ⟨wg, ⟨w2, w5⟩, ⟨g2, g5⟩, -, -⟩ := wg_T v
  obtain ⟨⟨x1, x2, x3⟩, x4, x5, x6, x7⟩ := x
  obtain ⟨⟨y1, y2, y3⟩, y4, y5, y6, y7⟩ := y
  have go5 := v.2.2.1.1
  have f0 := lit_0
  have tn (b : Nat) (p : Int × Int) (e : lastT T.tn (spt (wT T) b) = some p) : (2 ≤ p.1 ∧ p.1 ≤ 6) ∧ 0 ≤ p.2 ∧ p.2 < p.1 := by
    obtain ⟨z, z1, z2, -⟩ := lastT_mem e
    have := (v.2.1.2 z z1).2
    rw [z2] at this
    exact this
  have tv (b : Nat) (hb : b < wT T * gT T) : (lastT T.tn (spt (wT T) b) = none ∧ (f b).toInt = 0) ∨ ∃ p, lastT T.tn (spt (wT T) b) = some p ∧ (f b).toInt = p.1 ∧ (f (25 + b)).toInt = p.2 ∧ (2 ≤ p.1 ∧ p.1 ≤ 6) ∧ 0 ≤ p.2 ∧ p.2 < p.1 := by
    obtain ⟨u1, u2⟩ := (y5 b (by omega)).2 hb
    cases e : lastT T.tn (spt (wT T) b) with
    | none => exact Or.inl ⟨rfl, by rw [(u1 e).1]; exact f0⟩
    | some p =>
      obtain ⟨k1, k2⟩ := tn b p e
      exact Or.inr ⟨p, rfl, (u2 p e).1, (u2 p e).2, k1, k2⟩
  refine ⟨⟨⟨x1.trans y1.symm, x2.trans y2.symm, ?_⟩, fun b hb => ?_, fun b hb z => ?_, fun k hk => ⟨?_, ?_⟩⟩, fun b hb => ⟨fun z => ?_, ?_⟩, fun b hb z => ((y4 b hb).mp z).1, fun k hk => ?_, fun k h1 h2 => ⟨y7 k h1 h2, y3 k h2⟩⟩
  · refine bt_ext (fun i hi' => ?_)
    have u1 := x4 i hi'
    have u2 := y4 i hi'
    cases e1 : bt (hi h a 2) i with
    | true => exact (u2.mpr (u1.mp e1)).symm
    | false =>
      cases e2 : bt (f 50) i with
      | true => exact absurd (u1.mpr (u2.mp e2)) (by rw [e1]; decide)
      | false => rfl
  · rw [x5 b hb]
    refine ⟨fun z => ⟨z.1, ?_⟩, fun z => ⟨z.1, ?_⟩⟩
    · rcases tv b z.1 with ⟨e, -⟩ | ⟨p, -, e2, -, e3, -⟩
      · exact absurd e z.2
      · omega
    · rcases tv b z.1 with ⟨-, e⟩ | ⟨p, e, -⟩
      · have := z.2
        omega
      · rw [e]
        exact fun z => nsn z.symm
  · rcases tv b hb with ⟨-, e⟩ | ⟨p, e, e2, e3, -⟩
    · omega
    · rw [x6 b p hb e, e2, e3]
  · exact Int32.toInt_inj.mp ((x7 k hk).trans (y6 k hk).symm)
  · rw [x3 k (by omega), y3 k (by omega)]
  · rw [(y5 b hb).1 (by omega)]; exact f0
  · by_cases y : b < wT T * gT T
    · rcases tv b y with ⟨-, e⟩ | ⟨p, -, e2, e3, e4, e5⟩
      · exact ⟨by omega, fun z => by omega⟩
      · exact ⟨by omega, fun _ => ⟨by omega, by omega⟩⟩
    · rw [(y5 b hb).1 y]
      exact ⟨by omega, fun z => by omega⟩
  · obtain ⟨l25, -⟩ := gs_lt v hk
    obtain ⟨on, nr⟩ := vl.2.2 k hk
    obtain ⟨c1, c2⟩ := clw_on w5 g5 l25 on
    have e := y6 k hk
    refine ⟨⟨by omega, by omega⟩, ?_⟩
    have en : (f (51 + k)).toInt.toNat = clw (wT T) (gsT T k) := by omega
    rw [en]
    cases z : bt (f 50) (clw (wT T) (gsT T k)) with
    | false => rfl
    | true =>
      have := ((y4 _ (by omega)).mp z).2
      rw [c2] at this
      exact absurd this nr
end R56A
