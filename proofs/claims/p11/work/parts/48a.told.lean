/-! WHAT IS TOLD AND HELD: the same of both -/
def ezB (b : Bool) : Int32 := if b then 1 else 0
/-- the class's bits of what is held -/
def ezM (a b c : Bool) : Int32 := ((if a then 1 else 0) ||| (if b then 2 else 0)) ||| (if c then 4 else 0)
def ezHeld (h : Hp) : Prop := ∃ a b c : Bool, hi h 0 10 = ezM a b c ∧ hi h 273 0 = ezB a ∧ hi h 273 1 = ezB b ∧ hi h 273 2 = ezB c
def ezTold (h : Hp) : Prop := hi h 201 2 = hi h 226 65 ∧ (0 ≤ (hi h 201 2).toInt ∧ (hi h 201 2).toInt ≤ 20) ∧ ∀ k : Nat, (k : Int) < (hi h 201 2).toInt → hi h 202 k = hi h 271 k ∧ hi h 203 k = hi h 272 k ∧ 0 ≤ (hi h 271 k).toInt ∧ (hi h 271 k).toInt < 60
def Ie (h : Hp) : Prop := ezHeld h ∧ ezTold h
def Iz (h : Hp) : Prop := Iw h ∧ Ie h
/-- the cells of it -/
def ezC (a k : Nat) : Prop := (a = 0 ∧ k = 10) ∨ (a = 201 ∧ k = 2) ∨ a = 202 ∨ a = 203 ∨ (a = 226 ∧ k = 65) ∨ a = 271 ∨ a = 272 ∨ a = 273
def ezK (h q : Hp) : Prop := ∀ a k, ezC a k → hi q a k = hi h a k
section EZ
variable {h h0 h1 h2 q : Hp} {n : Nat}
theorem ezK.rf (h : Hp) : ezK h h := fun _ _ _ => rfl
theorem ezK.tr (a : ezK h0 h1) (b : ezK h1 h2) : ezK h0 h2 := fun x k e => (b x k e).trans (a x k e)
theorem ezK.z {S : Nat → Nat → Prop} (f : frZ S h q) (m : ∀ x k, S x k → ¬ ezC x k) : ezK h q := fun a k e => f.1 a k (fun z => m a k z e)
theorem frZ.hc {S : Nat → Nat → Prop} (f : frZ S h q) (m : ∀ x k, S x k → 226 ≤ x) (a k : Nat) (l : a < 226) : hi q a k = hi h a k := f.1 a k (fun z => Nat.not_lt.mpr (m a k z) l)
theorem ezHeld.ke (i : ezHeld h) (f : ezK h q) : ezHeld q := by
  obtain ⟨a, b, c, i1, i2, i3, i4⟩ := i
  refine ⟨a, b, c, ?_, ?_, ?_, ?_⟩
  · rw [f 0 10 (by unfold ezC; omega)]; exact i1
  · rw [f 273 0 (by unfold ezC; omega)]; exact i2
  · rw [f 273 1 (by unfold ezC; omega)]; exact i3
  · rw [f 273 2 (by unfold ezC; omega)]; exact i4
theorem ezTold.ke (i : ezTold h) (f : ezK h q) : ezTold q := by
  obtain ⟨i1, i2, i3⟩ := i
  have e : hi q 201 2 = hi h 201 2 := f 201 2 (by unfold ezC; omega)
  unfold ezTold
  rw [e, f 226 65 (by unfold ezC; omega)]
  refine ⟨i1, i2, fun k hk => ?_⟩
  rw [f 202 k (by unfold ezC; omega), f 271 k (by unfold ezC; omega), f 203 k (by unfold ezC; omega), f 272 k (by unfold ezC; omega)]
  exact i3 k hk
theorem Ie.ke (i : Ie h) (f : ezK h q) : Ie q := ⟨i.1.ke f, i.2.ke f⟩
/-- reading, the class -/
theorem ez_X11_read : Pc (F_X11_read n h) (fun q => (q.1.toInt ≠ 0 ∧ ezK h q.2) ∨ (q.1.toInt = 0 ∧ hi q.2 201 2 = 0 ∧ hi q.2 0 10 = 0)) := by
  have f0 := lit_0
  unfold F_X11_read
  refine Pc.bind zf_X7_readText (fun q1 f1 => ?_)
  refine Pc.eq (fun c1 => ?_) (fun c1 => ?_)
  · refine Pc.eq (fun _ => ?_) (fun c2 => absurd c1 c2)
    refine Pc.bind zf_X0_become (fun q14 _ => ?_)
    refine Pc.bind zf_X8_become (fun q16 _ => ?_)
    refine Pc.bind zf_X6_clear (fun q18 _ => ?_)
    refine Pc.bind (Q := fun q => hi q 201 2 = 0) (by unfold F_X2_clear; exact Pc.ret (hiE rfl)) (fun q20 h20 => Pc.ret (Or.inr ⟨c1.trans f0, ?_, hiE rfl⟩))
    show hi (wrI q20 0 10 0) 201 2 = 0
    rw [hi_wrI, if_neg (by decide)]
    exact h20
  · refine Pc.eq (fun c2 => absurd c2 c1) (fun _ => Pc.ret (Or.inl ⟨fun z => c1 (z.trans f0.symm), ?_⟩))
    have g1 : frZ (fun x k => (x = 0 ∧ (k = 1 ∨ k = 2)) ∨ (2 ≤ x ∧ x ≤ 22)) h q1.2 := f1.sub (fun x k z => Or.inr z)
    exact ezK.z ((g1.w (Or.inl ⟨rfl, Or.inl rfl⟩)).w (Or.inl ⟨rfl, Or.inr rfl⟩)) (fun x k z => by unfold ezC; omega)
/-- reading, the reference: what it writes before its end -/
def rbS (x k : Nat) : Prop := (227 ≤ x ∧ x ≤ 259) ∨ (x = 226 ∧ k ≠ 18 ∧ k ≠ 59 ∧ k ≠ 65)
def ezR (h : Hp) (q : Int32 × Hp) : Prop := ∃ (m : Nat) (x : Hp) (p : Int32), frZ rbS h x ∧ rdE m x p = some q
theorem ez_E {x : Hp} {p : Int32} (f : frZ rbS h x) : Pc (rdE n x p) (ezR h) := fun q e => ⟨n, x, p, f, e⟩
theorem ez_T {x : Hp} (f : frZ rbS h x) : Pc (rdT n x) (ezR h) := by
  unfold rdT
  exact Pc.le (fun _ => Pc.le (fun _ => ez_E f) (fun _ => ez_E f)) (fun _ => ez_E f)
theorem ez_Be {x : Hp} (f : frZ rbS h x) : Pc (rdB n x) (ezR h) := by
  unfold rdB
  refine Pc.bind zf_X12_isBeyond (fun q99 h99 => ?_)
  have f9 : frZ rbS h q99.2 := frZ.tr f (frZ.no h99)
  refine Pc.ite (fun _ => ez_T f9) (fun _ => ?_)
  exact Pc.bind zf_X12_wrong (fun q h1 => ez_T (frZ.tr f9 (frZ.sub h1 (fun x k z => by unfold rbS; omega))))
theorem ez_112 : ∀ (n : Nat) (h0 h : Hp) (l1 : Int32), frZ rbS h0 h → Pc (W_X12_read n 112 h l1) (ezR h0) := by
  intro n
  induction n with
  | zero => intro h0 h l1 f; exact Pc.no
  | succ n ih =>
    intro h0 h l1 f
    rw [u_X12_read]
    refine Pc.neg (by decide) (Pc.pos rfl ?_)
    refine Pc.ite (fun c1 => ?_) (fun c1 => ?_)
    · refine Pc.bind zf_X12_is (fun q75 h75 => ?_)
      have f7 : frZ rbS h0 q75.2 := frZ.tr f (frZ.no h75)
      refine Pc.ite (fun _ => ?_) (fun _ => ?_)
      · exact Pc.bind zf_X12_tellOne (fun q144 h1 => ih h0 q144 l1 (frZ.tr f7 (frZ.sub h1 (fun x k z => by unfold rbS; omega))))
      · exact Pc.ite (fun _ => ez_Be f7) (fun _ => ez_T f7)
    · exact Pc.ite (fun _ => ez_Be f) (fun _ => ez_T f)
theorem ez_10 : ∀ (n : Nat) (h0 h : Hp) (l1 : Int32), frZ rbS h0 h → Pc (W_X12_read n 10 h l1) (ezR h0) := by
  intro n
  induction n with
  | zero => intro h0 h l1 f; exact Pc.no
  | succ n ih =>
    intro h0 h l1 f
    rw [u_X12_read]
    refine Pc.pos rfl ?_
    refine Pc.ite (fun c1 => ?_) (fun c1 => ?_)
    · refine Pc.bind zf_X12_cut (fun q2 h2 => ?_)
      have f2 : frZ rbS h0 q2 := frZ.tr (frZ.w f (by unfold rbS; omega)) (frZ.sub h2 (fun x k z => by unfold rbS; omega))
      refine Pc.bind zf_X12_plain (fun q4 h4 => ?_)
      have f4 : frZ rbS h0 q4 := frZ.tr (frZ.w (frZ.w (frZ.w (frZ.w (frZ.w (frZ.w f2 (by unfold rbS; omega)) (by unfold rbS; omega)) (by unfold rbS; omega)) (by unfold rbS; omega)) (by unfold rbS; omega)) (by unfold rbS; omega)) (frZ.sub h4 (fun x k z => by unfold rbS; omega))
      exact ez_112 n h0 _ l1 (frZ.w (frZ.w f4 (by unfold rbS; omega)) (by unfold rbS; omega))
    · exact Pc.chk (fun _ => Pc.chk (fun _ => ih h0 _ (l1 + 1) (frZ.w f (by unfold rbS; omega))))
theorem ez_243 : ∀ (n : Nat) (h : Hp) (l1 : Int32) (i : Nat), l1.toInt = (i : Int) → i ≤ 3 → (∀ k, k < i → hi h 273 k = 0) → Pc (W_X12_read n 243 h l1) (fun q => q.1 = 0 ∧ (∀ a k, a ≠ 273 → hi q.2 a k = hi h a k) ∧ ∀ k, k < 3 → hi q.2 273 k = 0) := by
  intro n
  induction n with
  | zero => intro h l1 i a b c; exact Pc.no
  | succ n ih =>
    intro h l1 i a b c
    have f3 := lit_3
    have f1 := lit_1
    have n1 := ncT (show 0 ≤ l1.toInt by omega)
    have n2 : Int32.toNatClampNeg l1 = i := by omega
    rw [u_X12_read, n2]
    refine Pc.neg (by decide) (Pc.neg (by decide) (Pc.pos rfl ?_))
    refine Pc.le (fun c1 => Pc.ret ⟨rfl, fun _ _ _ => rfl, fun k hk => c k (by omega)⟩) (fun c1 => Pc.chk (fun _ => ?_))
    have a1 := adT l1 1 (by omega) (by omega)
    refine (ih _ (l1 + 1) (i + 1) (by omega) (by omega) (fun k hk => ?_)).mono (fun q hq => ⟨hq.1, fun a' k' z => ?_, hq.2.2⟩)
    · rw [hi_wrI]
      by_cases y : k = i
      · rw [if_pos ⟨rfl, y⟩]
      · rw [if_neg (fun w => y w.2)]; exact c k (by omega)
    · rw [hq.2.1 a' k' z, hi_wrI, if_neg (fun w => z w.1)]
def ezZ (h : Hp) (q : Int32 × Hp) : Prop := (q.1.toInt ≠ 0 ∧ ezK h q.2) ∨ (q.1.toInt = 0 ∧ hi q.2 226 65 = 0 ∧ (∀ k, k < 3 → hi q.2 273 k = 0) ∧ hi q.2 201 2 = hi h 201 2 ∧ hi q.2 0 10 = hi h 0 10)
theorem ez_rdE {x : Hp} {p : Int32} (f : frZ rbS h x) : Pc (rdE n x p) (ezZ h) := by
  have f0 := lit_0
  have f1 : frZ rbS h (wrI x 226 17 p) := frZ.w f (by unfold rbS; omega)
  have kf : ezK h (wrI x 226 17 p) := ezK.z f1 (fun x k z => by unfold rbS at z; unfold ezC; omega)
  unfold rdE
  refine Pc.le (fun c1 => ?_) (fun c1 => Pc.ret (Or.inl ⟨?_, kf⟩))
  · refine Pc.le (fun c2 => ?_) (fun c2 => Pc.ret (Or.inl ⟨?_, kf⟩))
    · refine Pc.bind zf_X12_begins (fun q106 h6 => ?_)
      refine Pc.bind zf_X12_keepsRow (fun q108 h8 => ?_)
      have k6 := frZ.hc h6 (fun x k z => by omega)
      have k8 := frZ.hc h8 (fun x k z => by omega)
      refine (ez_243 n _ 0 0 f0 (by decide) (fun k hk => absurd hk (Nat.not_lt_zero k))).mono (fun q hq => Or.inr ⟨?_, ?_, hq.2.2, ?_, ?_⟩)
      · rw [hq.1]; exact f0
      · rw [hq.2.1 226 65 (by decide), hi_wrI, if_pos ⟨rfl, rfl⟩]
      · rw [hq.2.1 201 2 (by decide), hi_wrI, if_neg (by decide), hi_wrI, if_neg (by decide), k8 201 2 (by decide), k6 201 2 (by decide), hi_wrI, if_neg (by decide)]
        exact kf 201 2 (by unfold ezC; omega)
      · rw [hq.2.1 0 10 (by decide), hi_wrI, if_neg (by decide), hi_wrI, if_neg (by decide), k8 0 10 (by decide), k6 0 10 (by decide), hi_wrI, if_neg (by decide)]
        exact kf 0 10 (by unfold ezC; omega)
    · show (hi (wrI x 226 17 p) 226 15).toInt ≠ 0
      omega
  · show (hi (wrI x 226 17 p) 226 13).toInt ≠ 0
    omega
theorem ez_X12_read : Pc (F_X12_read n h) (ezZ h) := by
  intro q e
  have r : ezR h q := by
    unfold F_X12_read at e
    exact ez_10 n h _ 0 (frZ.w (frZ.rf h) (by unfold rbS; omega)) q e
  obtain ⟨m, x, p, f, e2⟩ := r
  exact ez_rdE f q e2
/-- what a reading keeps of it -/
theorem rd_iz (w : Iz h0) : ∃ (n1 : Nat) (q1 : Int32 × Hp) (n2 : Nat) (q2 : Int32 × Hp), F_X11_read n1 h0 = some q1 ∧ F_X12_read n2 q1.2 = some q2 ∧ q1.1 = q2.1 ∧ Iz q2.2 := by
  obtain ⟨n1, q1, n2, q2, e1, e2, e3, e4⟩ := rd_both w.1
  have f0 := lit_0
  refine ⟨n1, q1, n2, q2, e1, e2, e3, e4, ?_⟩
  have r1 : (q1.1.toInt ≠ 0 ∧ ezK h0 q1.2) ∨ (q1.1.toInt = 0 ∧ hi q1.2 201 2 = 0 ∧ hi q1.2 0 10 = 0) := ez_X11_read q1 e1
  have r2 : (q2.1.toInt ≠ 0 ∧ ezK q1.2 q2.2) ∨ (q2.1.toInt = 0 ∧ hi q2.2 226 65 = 0 ∧ (∀ k, k < 3 → hi q2.2 273 k = 0) ∧ hi q2.2 201 2 = hi q1.2 201 2 ∧ hi q2.2 0 10 = hi q1.2 0 10) := ez_X12_read q2 e2
  rw [e3] at r1
  rcases r1 with ⟨a1, a2⟩ | ⟨a1, a2, a3⟩
  · rcases r2 with ⟨b1, b2⟩ | ⟨b1, _⟩
    · exact w.2.ke (a2.tr b2)
    · exact absurd b1 a1
  · rcases r2 with ⟨b1, _⟩ | ⟨b1, b2, b3, b4, b5⟩
    · exact absurd a1 b1
    · have z2 : hi q2.2 201 2 = 0 := b4.trans a2
      refine ⟨⟨false, false, false, ?_, b3 0 (by decide), b3 1 (by decide), b3 2 (by decide)⟩, z2.trans b2.symm, by rw [z2]; omega, fun k hk => ?_⟩
      · rw [b5, a3]; decide
      · rw [z2] at hk
        exfalso; omega
end EZ
/-- as both are made -/
theorem ez505 : hi hk_505 0 10 = 0 ∧ hi hk_505 201 2 = 0 := by decide +kernel
theorem izY : Iz hk_Y := by
  obtain ⟨t1, -⟩ := tlY
  obtain ⟨-, -, y65, -, y73⟩ := fl505
  obtain ⟨z1, z2⟩ := ez505
  have f0 := lit_0
  have ra (a k : Nat) (n : a < 226 ∨ a = 229 ∨ 265 ≤ a) : hi hk_Y a k = hi hk_505 a k := t1 a k (by omega) (by omega) (by omega) (by omega) (by unfold plW; omega) (by unfold plW; omega)
  have i65 : hi hk_Y 226 65 = 0 := (t1 226 65 (by decide) (by decide) (by decide) (by omega) (by unfold plW; omega) (by unfold plW; omega)).trans y65
  have i2 : hi hk_Y 201 2 = 0 := (ra 201 2 (by decide)).trans z2
  have i73 (k : Nat) (hk : k < 3) : hi hk_Y 273 k = 0 := (ra 273 k (by omega)).trans (y73 k hk)
  refine ⟨iwY, ⟨false, false, false, ?_, i73 0 (by decide), i73 1 (by decide), i73 2 (by decide)⟩, i2.trans i65.symm, by rw [i2]; omega, fun k hk => ?_⟩
  · rw [ra 0 10 (by decide), z1]; decide
  · rw [i2] at hk
    exfalso; omega
