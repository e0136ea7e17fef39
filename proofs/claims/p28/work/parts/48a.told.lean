section
/-! WHAT IS TOLD AND HELD: the same of both -/
def ezB (b : Bool) : Int32 := if b then 1 else 0
/-- the class's bits of what is held -/
def ezM (a b c : Bool) : Int32 := ((if a then 1 else 0) ||| (if b then 2 else 0)) ||| (if c then 4 else 0)
def ezHeld (h : Hp) : Prop := ∃ a b c : Bool, hi h 0 10 = ezM a b c ∧ hi h 273 0 = ezB a ∧ hi h 273 1 = ezB b ∧ hi h 273 2 = ezB c
def ezTold (h : Hp) : Prop := hi h 201 2 = hi h 226 65 ∧ (0 ≤ (hi h 201 2).toInt ∧ (hi h 201 2).toInt ≤ 20) ∧ ∀ k : Nat, (k : Int) < (hi h 201 2).toInt → hi h 202 k = hi h 271 k ∧ hi h 203 k = hi h 272 k ∧ 0 ≤ (hi h 271 k).toInt ∧ (hi h 271 k).toInt < 60
def Ie (h : Hp) : Prop := ezHeld h ∧ ezTold h
def Iz (h : Hp) : Prop := Iw h ∧ Ie h
/-- the cells of it -/
def ezC (a k : Nat) : Prop := (a = 0 ∧ k = 10) ∨ (a = 201 ∧ k = 2) ∨ a = 202 ∨ a = 203 ∨ (a = 226 ∧ k = 65) ∨ a = 271 ∨ a = 272 ∨ a = 273
def ezK (h q : Hp) : Prop := ∀ a k, ezC a k → hi q a k = hi h a k
section EZ
variable {h h0 h1 h2 q : Hp} {n : Nat}
theorem ezK.rf (h : Hp) : ezK h h := fun _ _ _ => rfl
theorem ezK.tr (a : ezK h0 h1) (b : ezK h1 h2) : ezK h0 h2 := fun x k e => (b x k e).trans (a x k e)
theorem ezK.z {S : Nat → Nat → Prop} (f : frZ S h q) (m : ∀ x k, S x k → ¬ ezC x k) : ezK h q := fun a k e => f.1 a k (fun z => m a k z e)
theorem frZ.hc {S : Nat → Nat → Prop} (f : frZ S h q) (m : ∀ x k, S x k → 226 ≤ x) (a k : Nat) (l : a < 226) : hi q a k = hi h a k := f.1 a k (fun z => Nat.not_lt.mpr (m a k z) l)
theorem ezHeld.ke (i : ezHeld h) (f : ezK h q) : ezHeld q := by
  obtain ⟨a, b, c, i1, i2, i3, i4⟩ := i
  refine ⟨a, b, c, ?_, ?_, ?_, ?_⟩
  · rw [f 0 10 (by unfold ezC; omega)]; exact i1
  · rw [f 273 0 (by unfold ezC; omega)]; exact i2
  · rw [f 273 1 (by unfold ezC; omega)]; exact i3
  · rw [f 273 2 (by unfold ezC; omega)]; exact i4
theorem ezTold.ke (i : ezTold h) (f : ezK h q) : ezTold q := by
  obtain ⟨i1, i2, i3⟩ := i
  have e : hi q 201 2 = hi h 201 2 := f 201 2 (by unfold ezC; omega)
  unfold ezTold
  rw [e, f 226 65 (by unfold ezC; omega)]
  refine ⟨i1, i2, fun k hk => ?_⟩
  rw [f 202 k (by unfold ezC; omega), f 271 k (by unfold ezC; omega), f 203 k (by unfold ezC; omega), f 272 k (by unfold ezC; omega)]
  exact i3 k hk
theorem Ie.ke (i : Ie h) (f : ezK h q) : Ie q := ⟨i.1.ke f, i.2.ke f⟩
/-- reading, the class -/
theorem ez_X11_read : Pc (F_X11_read n h) (fun q => (q.1.toInt ≠ 0 ∧ ezK h q.2) ∨ (q.1.toInt = 0 ∧ hi q.2 201 2 = 0 ∧ hi q.2 0 10 = 0)) := by
  have f0 := lit_0
  unfold F_X11_read
  refine Pc.bind zf_X7_readText (fun q1 f1 => ?_)
  refine Pc.eq (fun c1 => ?_) (fun c1 => ?_)
  · refine Pc.eq (fun _ => ?_) (fun c2 => absurd c1 c2)
    refine Pc.bind zf_X0_become (fun q14 _ => ?_)
    refine Pc.bind zf_X8_become (fun q16 _ => ?_)
    refine Pc.bind zf_X6_clear (fun q18 _ => ?_)
    refine Pc.bind (Q := fun q => hi q 201 2 = 0) (by unfold F_X2_clear; exact Pc.ret (hiE rfl)) (fun q20 h20 => Pc.ret (Or.inr ⟨c1.trans f0, ?_, hiE rfl⟩))
    show hi (wrI q20 0 10 0) 201 2 = 0
    rw [hi_wrI, if_neg (by decide)]
    exact h20
  · refine Pc.eq (fun c2 => absurd c2 c1) (fun _ => Pc.ret (Or.inl ⟨fun z => c1 (z.trans f0.symm), ?_⟩))
    have g1 : frZ (fun x k => (x = 0 ∧ (k = 1 ∨ k = 2)) ∨ (2 ≤ x ∧ x ≤ 22)) h q1.2 := f1.sub (fun x k z => Or.inr z)
    exact ezK.z ((g1.w (Or.inl ⟨rfl, Or.inl rfl⟩)).w (Or.inl ⟨rfl, Or.inr rfl⟩)) (fun x k z => by unfold ezC; omega)
/-- reading, the reference: what it writes before its end -/
def rbS (x k : Nat) : Prop := (227 ≤ x ∧ x ≤ 259) ∨ (x = 226 ∧ k ≠ 18 ∧ k ≠ 59 ∧ k ≠ 65)
def ezR (h : Hp) (q : Int32 × Hp) : Prop := ∃ (m : Nat) (x : Hp) (p : Int32), frZ rbS h x ∧ rdE m x p = some q
theorem ez_E {x : Hp} {p : Int32} (f : frZ rbS h x) : Pc (rdE n x p) (ezR h) := fun q e => ⟨n, x, p, f, e⟩
theorem ez_T {x : Hp} (f : frZ rbS h x) : Pc (rdT n x) (ezR h) := by
  unfold rdT
  exact Pc.le (fun _ => Pc.le (fun _ => ez_E f) (fun _ => ez_E f)) (fun _ => ez_E f)
theorem ez_Be {x : Hp} (f : frZ rbS h x) : Pc (rdB n x) (ezR h) := by
  unfold rdB
  refine Pc.bind zf_X12_isBeyond (fun q99 h99 => ?_)
  have f9 : frZ rbS h q99.2 := frZ.tr f (frZ.no h99)
  refine Pc.ite (fun _ => ez_T f9) (fun _ => ?_)
  exact Pc.bind zf_X12_wrong (fun q h1 => ez_T (frZ.tr f9 (frZ.sub h1 (fun x k z => by unfold rbS; omega))))
theorem ez_112 : ∀ (n : Nat) (h0 h : Hp) (l1 : Int32), frZ rbS h0 h → Pc (W_X12_read n 112 h l1) (ezR h0) := by
  intro n
  induction n with
  | zero => intro h0 h l1 f; exact Pc.no
  | succ n ih =>
    intro h0 h l1 f
    rw [u_X12_read]
    refine Pc.neg (by decide) (Pc.pos rfl ?_)
    refine Pc.ite (fun c1 => ?_) (fun c1 => ?_)
    · refine Pc.bind zf_X12_is (fun q75 h75 => ?_)
      have f7 : frZ rbS h0 q75.2 := frZ.tr f (frZ.no h75)
      refine Pc.ite (fun _ => ?_) (fun _ => ?_)
      · exact Pc.bind zf_X12_tellOne (fun q144 h1 => ih h0 q144 l1 (frZ.tr f7 (frZ.sub h1 (fun x k z => by unfold rbS; omega))))
      · exact Pc.ite (fun _ => ez_Be f7) (fun _ => ez_T f7)
    · exact Pc.ite (fun _ => ez_Be f) (fun _ => ez_T f)
theorem ez_10 : ∀ (n : Nat) (h0 h : Hp) (l1 : Int32), frZ rbS h0 h → Pc (W_X12_read n 10 h l1) (ezR h0) := by
  intro n
  induction n with
  | zero => intro h0 h l1 f; exact Pc.no
  | succ n ih =>
    intro h0 h l1 f
    rw [u_X12_read]
    refine Pc.pos rfl ?_
    refine Pc.ite (fun c1 => ?_) (fun c1 => ?_)
    · refine Pc.bind zf_X12_cut (fun q2 h2 => ?_)
      have f2 : frZ rbS h0 q2 := frZ.tr (frZ.w f (by unfold rbS; omega)) (frZ.sub h2 (fun x k z => by unfold rbS; omega))
      refine Pc.bind zf_X12_plain (fun q4 h4 => ?_)
      have f4 : frZ rbS h0 q4 := frZ.tr (frZ.w (frZ.w (frZ.w (frZ.w (frZ.w (frZ.w f2 (by unfold rbS; omega)) (by unfold rbS; omega)) (by unfold rbS; omega)) (by unfold rbS; omega)) (by unfold rbS; omega)) (by unfold rbS; omega)) (frZ.sub h4 (fun x k z => by unfold rbS; omega))
      exact ez_112 n h0 _ l1 (frZ.w (frZ.w f4 (by unfold rbS; omega)) (by unfold rbS; omega))
    · exact Pc.chk (fun _ => Pc.chk (fun _ => ih h0 _ (l1 + 1) (frZ.w f (by unfold rbS; omega))))
theorem ez_243 : ∀ (n : Nat) (h : Hp) (l1 : Int32) (i : Nat), l1.toInt = (i : Int) → i ≤ 3 → (∀ k, k < i → hi h 273 k = 0) → Pc (W_X12_read n 243 h l1) (fun q => q.1 = 0 ∧ (∀ a k, a ≠ 273 → hi q.2 a k = hi h a k) ∧ ∀ k, k < 3 → hi q.2 273 k = 0) := by
  intro n
  induction n with
  | zero => intro h l1 i a b c; exact Pc.no
  | succ n ih =>
    intro h l1 i a b c
    have f3 := lit_3
    have f1 := lit_1
    have n1 := ncT (show 0 ≤ l1.toInt by omega)
    have n2 : Int32.toNatClampNeg l1 = i := by omega
    rw [u_X12_read, n2]
    refine Pc.neg (by decide) (Pc.neg (by decide) (Pc.pos rfl ?_))
    refine Pc.le (fun c1 => Pc.ret ⟨rfl, fun _ _ _ => rfl, fun k hk => c k (by omega)⟩) (fun c1 => Pc.chk (fun _ => ?_))
    have a1 := adT l1 1 (by omega) (by omega)
    refine (ih _ (l1 + 1) (i + 1) (by omega) (by omega) (fun k hk => ?_)).mono (fun q hq => ⟨hq.1, fun a' k' z => ?_, hq.2.2⟩)
    · rw [hi_wrI]
      by_cases y : k = i
      · rw [if_pos ⟨rfl, y⟩]
      · rw [if_neg (fun w => y w.2)]; exact c k (by omega)
    · rw [hq.2.1 a' k' z, hi_wrI, if_neg (fun w => z w.1)]
def ezZ (h : Hp) (q : Int32 × Hp) : Prop := (q.1.toInt ≠ 0 ∧ ezK h q.2) ∨ (q.1.toInt = 0 ∧ hi q.2 226 65 = 0 ∧ (∀ k, k < 3 → hi q.2 273 k = 0) ∧ hi q.2 201 2 = hi h 201 2 ∧ hi q.2 0 10 = hi h 0 10)
theorem ez_rdE {x : Hp} {p : Int32} (f : frZ rbS h x) : Pc (rdE n x p) (ezZ h) := by
  have f0 := lit_0
  have f1 : frZ rbS h (wrI x 226 17 p) := frZ.w f (by unfold rbS; omega)
  have kf : ezK h (wrI x 226 17 p) := ezK.z f1 (fun x k z => by unfold rbS at z; unfold ezC; omega)
  unfold rdE
  refine Pc.le (fun c1 => ?_) (fun c1 => Pc.ret (Or.inl ⟨?_, kf⟩))
  · refine Pc.le (fun c2 => ?_) (fun c2 => Pc.ret (Or.inl ⟨?_, kf⟩))
    · refine Pc.bind zf_X12_begins (fun q106 h6 => ?_)
      refine Pc.bind zf_X12_keepsRow (fun q108 h8 => ?_)
      have k6 := frZ.hc h6 (fun x k z => by omega)
      have k8 := frZ.hc h8 (fun x k z => by omega)
      refine (ez_243 n _ 0 0 f0 (by decide) (fun k hk => absurd hk (Nat.not_lt_zero k))).mono (fun q hq => Or.inr ⟨?_, ?_, hq.2.2, ?_, ?_⟩)
      · rw [hq.1]; exact f0
      · rw [hq.2.1 226 65 (by decide), hi_wrI, if_pos ⟨rfl, rfl⟩]
      · rw [hq.2.1 201 2 (by decide), hi_wrI, if_neg (by decide), hi_wrI, if_neg (by decide), k8 201 2 (by decide), k6 201 2 (by decide), hi_wrI, if_neg (by decide)]
        exact kf 201 2 (by unfold ezC; omega)
      · rw [hq.2.1 0 10 (by decide), hi_wrI, if_neg (by decide), hi_wrI, if_neg (by decide), k8 0 10 (by decide), k6 0 10 (by decide), hi_wrI, if_neg (by decide)]
        exact kf 0 10 (by unfold ezC; omega)
    · show (hi (wrI x 226 17 p) 226 15).toInt ≠ 0
      omega
  · show (hi (wrI x 226 17 p) 226 13).toInt ≠ 0
    omega
theorem ez_X12_read : Pc (F_X12_read n h) (ezZ h) := by
  intro q e
  have r : ezR h q := by
    unfold F_X12_read at e
    exact ez_10 n h _ 0 (frZ.w (frZ.rf h) (by unfold rbS; omega)) q e
  obtain ⟨m, x, p, f, e2⟩ := r
  exact ez_rdE f q e2
/-- what a reading keeps of it -/
theorem rd_iz (w : Iz h0) : ∃ (n1 : Nat) (q1 : Int32 × Hp) (n2 : Nat) (q2 : Int32 × Hp), F_X11_read n1 h0 = some q1 ∧ F_X12_read n2 q1.2 = some q2 ∧ q1.1 = q2.1 ∧ Iz q2.2 := by
  obtain ⟨n1, q1, n2, q2, e1, e2, e3, e4⟩ := rd_both w.1
  have f0 := lit_0
  refine ⟨n1, q1, n2, q2, e1, e2, e3, e4, ?_⟩
  have r1 : (q1.1.toInt ≠ 0 ∧ ezK h0 q1.2) ∨ (q1.1.toInt = 0 ∧ hi q1.2 201 2 = 0 ∧ hi q1.2 0 10 = 0) := ez_X11_read q1 e1
  have r2 : (q2.1.toInt ≠ 0 ∧ ezK q1.2 q2.2) ∨ (q2.1.toInt = 0 ∧ hi q2.2 226 65 = 0 ∧ (∀ k, k < 3 → hi q2.2 273 k = 0) ∧ hi q2.2 201 2 = hi q1.2 201 2 ∧ hi q2.2 0 10 = hi q1.2 0 10) := ez_X12_read q2 e2
  rw [e3] at r1
  rcases r1 with ⟨a1, a2⟩ | ⟨a1, a2, a3⟩
  · rcases r2 with ⟨b1, b2⟩ | ⟨b1, _⟩
    · exact w.2.ke (a2.tr b2)
    · exact absurd b1 a1
  · rcases r2 with ⟨b1, _⟩ | ⟨b1, b2, b3, b4, b5⟩
    · exact absurd a1 b1
    · have z2 : hi q2.2 201 2 = 0 := b4.trans a2
      refine ⟨⟨false, false, false, ?_, b3 0 (by decide), b3 1 (by decide), b3 2 (by decide)⟩, z2.trans b2.symm, by rw [z2]; omega, fun k hk => ?_⟩
      · rw [b5, a3]; decide
      · rw [z2] at hk
        exfalso; omega
end EZ
/-- as both are made -/
theorem ez505 : hi hk_505 0 10 = 0 ∧ hi hk_505 201 2 = 0 := by decide +kernel
theorem izY : Iz hk_Y := by
  obtain ⟨t1, -⟩ := tlY
  obtain ⟨-, -, y65, -, y73⟩ := fl505
  obtain ⟨z1, z2⟩ := ez505
  have f0 := lit_0
  have ra (a k : Nat) (n : a < 226 ∨ a = 229 ∨ 265 ≤ a) : hi hk_Y a k = hi hk_505 a k := t1 a k (by omega) (by omega) (by omega) (by omega) (by unfold plW; omega) (by unfold plW; omega)
  have i65 : hi hk_Y 226 65 = 0 := (t1 226 65 (by decide) (by decide) (by decide) (by omega) (by unfold plW; omega) (by unfold plW; omega)).trans y65
  have i2 : hi hk_Y 201 2 = 0 := (ra 201 2 (by decide)).trans z2
  have i73 (k : Nat) (hk : k < 3) : hi hk_Y 273 k = 0 := (ra 273 k (by omega)).trans (y73 k hk)
  refine ⟨iwY, ⟨false, false, false, ?_, i73 0 (by decide), i73 1 (by decide), i73 2 (by decide)⟩, i2.trans i65.symm, by rw [i2]; omega, fun k hk => ?_⟩
  · rw [ra 0 10 (by decide), z1]; decide
  · rw [i2] at hk
    exfalso; omega
end
section
/-! TELL, FORGET, HOLD, RESTORE: both -/
section ET
variable {h h0 q : Hp} {n : Nat} {x1 x2 : Int32}
theorem frZ.hr {S : Nat → Nat → Prop} (f : frZ S h q) (m : ∀ x k, S x k → x < 226) (a k : Nat) (l : 226 ≤ a) : hi q a k = hi h a k := f.1 a k (fun z => Nat.not_le.mpr (m a k z) l)
theorem ezHeld.at (i : ezHeld h) (f : hi q 0 10 = hi h 0 10) (g : ∀ k, hi q 273 k = hi h 273 k) : ezHeld q := by
  obtain ⟨a, b, c, i1, i2, i3, i4⟩ := i
  exact ⟨a, b, c, f.trans i1, (g 0).trans i2, (g 1).trans i3, (g 2).trans i4⟩
/-- three cells written -/
theorem ez_wr {z zk t s K : Nat} {v u w : Int32} (d1 : t ≠ s) (d2 : t ≠ z) (d3 : s ≠ z) (e : q = wrI (wrI (wrI h t K v) s K u) z zk w) : hi q z zk = w ∧ hi q t K = v ∧ hi q s K = u ∧ ∀ a k, ¬ ((a = z ∧ k = zk) ∨ (a = t ∧ k = K) ∨ (a = s ∧ k = K)) → hi q a k = hi h a k := by
  subst e
  refine ⟨hiE rfl, ?_, ?_, fun a k m => ?_⟩
  · rw [hi_wrI, if_neg (fun y => d2 y.1), hi_wrI, if_neg (fun y => d1 y.1), hi_wrI, if_pos ⟨rfl, rfl⟩]
  · rw [hi_wrI, if_neg (fun y => d3 y.1), hi_wrI, if_pos ⟨rfl, rfl⟩]
  · rw [hi_wrI, if_neg (by omega), hi_wrI, if_neg (by omega), hi_wrI, if_neg (by omega)]
def ezT1 (h : Hp) (x1 x2 : Int32) (q : Int32 × Hp) : Prop := (((hi h 201 2).toInt < 20 ∧ 0 ≤ x1.toInt ∧ x1.toInt < 60) ∧ q.1 = hi h 201 2 + 1 - 1 ∧ q.2 = wrI (wrI (wrI h 202 (Int32.toNatClampNeg (hi h 201 2)) x1.toInt8.toInt32) 203 (Int32.toNatClampNeg (hi h 201 2)) x2) 201 2 (hi h 201 2 + 1)) ∨ (¬ ((hi h 201 2).toInt < 20 ∧ 0 ≤ x1.toInt ∧ x1.toInt < 60) ∧ q.1 = -1 ∧ q.2 = h)
theorem ez_tell11 : Pc (F_X11_tell n h x1 x2) (ezT1 h x1 x2) := by
  have f0 := lit_0
  have f20 := lit_20
  have f60 := lit_60
  have e1 (v : Int32) (k : Nat) : hi (wrI h 202 k v) 201 2 = hi h 201 2 := hiA rfl 201 2 (by decide)
  have e2 (v u : Int32) (k j : Nat) : hi (wrI (wrI h 202 k v) 203 j u) 201 2 = hi h 201 2 := (hiA rfl 201 2 (by decide)).trans (e1 v k)
  have e3 (g : Hp) (v : Int32) : hi (wrI g 201 2 v) 201 2 = v := hiE rfl
  unfold F_X11_tell
  refine Pc.bind (Q := ezT1 h x1 x2) ?_ (fun q1 h1 => Pc.ret h1)
  unfold F_X2_keep
  simp only [e1, e2, e3]
  refine Pc.le (fun c1 => Pc.ret (Or.inr ⟨fun z => by omega, rfl, rfl⟩)) (fun c1 => ?_)
  refine Pc.lt (fun c2 => Pc.ret (Or.inr ⟨fun z => by omega, rfl, rfl⟩)) (fun c2 => ?_)
  refine Pc.lt (fun c3 => ?_) (fun c3 => Pc.ret (Or.inr ⟨fun z => by omega, rfl, rfl⟩))
  exact Pc.chk (fun _ => Pc.chk (fun _ => Pc.ret (Or.inl ⟨⟨by omega, by omega, by omega⟩, rfl, rfl⟩)))
theorem ez_in {x3 : Int32} : Pc (F_X12_in n h x1 x2 x3) (fun q => q.2 = h ∧ (q.1.toInt ≠ 0 ↔ x2.toInt ≤ x1.toInt ∧ x1.toInt ≤ x3.toInt)) := by
  have f0 := lit_0
  have f1 := lit_1
  unfold F_X12_in
  refine Pc.lt (fun c1 => Pc.ret ⟨rfl, ?_⟩) (fun c1 => Pc.lt (fun c2 => Pc.ret ⟨rfl, ?_⟩) (fun c2 => Pc.ret ⟨rfl, ?_⟩))
  · show (0 : Int32).toInt ≠ 0 ↔ _
    omega
  · show (0 : Int32).toInt ≠ 0 ↔ _
    omega
  · show (1 : Int32).toInt ≠ 0 ↔ _
    omega
theorem ez_isTime : Pc (F_X12_isTime n h x1) (fun q => q.2 = h ∧ (q.1.toInt ≠ 0 ↔ 0 ≤ x1.toInt ∧ x1.toInt ≤ 59)) := by
  have f0 := lit_0
  have f59 := lit_59
  unfold F_X12_isTime
  refine Pc.bind ez_in (fun q1 h1 => Pc.chk (fun _ => Pc.ret ⟨h1.1, ?_⟩))
  show q1.1.toInt ≠ 0 ↔ _
  have := h1.2
  omega
def ezT2 (h : Hp) (x1 x2 : Int32) (q : Int32 × Hp) : Prop := (((hi h 226 65).toInt ≠ 20 ∧ 0 ≤ x1.toInt ∧ x1.toInt ≤ 59) ∧ q.1 = hi h 226 65 + 1 - 1 ∧ q.2 = wrI (wrI (wrI h 271 (Int32.toNatClampNeg (hi h 226 65)) x1) 272 (Int32.toNatClampNeg (hi h 226 65)) x2) 226 65 (hi h 226 65 + 1)) ∨ (¬ ((hi h 226 65).toInt ≠ 20 ∧ 0 ≤ x1.toInt ∧ x1.toInt ≤ 59) ∧ q.1 = -1 ∧ q.2 = h)
theorem ez_tell12 : Pc (F_X12_tell n h x1 x2) (ezT2 h x1 x2) := by
  have f0 := lit_0
  have f20 := lit_20
  have e1 (v : Int32) (k : Nat) : hi (wrI h 271 k v) 226 65 = hi h 226 65 := hiA rfl 226 65 (by decide)
  have e2 (v u : Int32) (k j : Nat) : hi (wrI (wrI h 271 k v) 272 j u) 226 65 = hi h 226 65 := (hiA rfl 226 65 (by decide)).trans (e1 v k)
  have e3 (g : Hp) (v : Int32) : hi (wrI g 226 65 v) 226 65 = v := hiE rfl
  unfold F_X12_tell
  refine Pc.eq (fun c1 => Pc.ret (Or.inr ⟨fun z => by omega, rfl, rfl⟩)) (fun c1 => ?_)
  refine Pc.bind ez_isTime (fun q2 h2 => ?_)
  obtain ⟨t1, t2⟩ := h2
  rw [t1]
  simp only [e1, e2, e3]
  refine Pc.eq (fun c2 => Pc.ret (Or.inr ⟨fun z => by omega, rfl, rfl⟩)) (fun c2 => ?_)
  exact Pc.chk (fun _ => Pc.chk (fun _ => Pc.ret (Or.inl ⟨⟨by omega, by omega, by omega⟩, rfl, rfl⟩)))
theorem tl_ie {q1 q2 : Int32 × Hp} {n1 n2 : Nat} (w : Ie h0) (e1 : F_X11_tell n1 h0 x1 x2 = some q1) (e2 : F_X12_tell n2 q1.2 x1 x2 = some q2) : q1.1 = q2.1 ∧ Ie q2.2 := by
  have r1 := ez_tell11 q1 e1
  have r2 := ez_tell12 q2 e2
  have k1 := frZ.hr (zf_X11_tell q1 e1) (fun x k z => by omega)
  obtain ⟨wh, w1, w2, w3⟩ := w
  have eS : hi q1.2 226 65 = hi h0 201 2 := (k1 226 65 (by decide)).trans w1.symm
  unfold ezT2 at r2
  rw [eS] at r2
  rcases r1 with ⟨a1, a2, a3⟩ | ⟨a1, a2, a3⟩
  · rcases r2 with ⟨b1, b2, b3⟩ | ⟨b1, _⟩
    · refine ⟨a2.trans b2.symm, ?_⟩
      obtain ⟨p1, p2, p3, p4⟩ := ez_wr (by decide) (by decide) (by decide) a3
      obtain ⟨o1, o2, o3, o4⟩ := ez_wr (by decide) (by decide) (by decide) b3
      have hn := ncT w2.1
      have f1 := lit_1
      have ad := adT (hi h0 201 2) 1 (by omega) (by omega)
      have s1 : hi q2.2 201 2 = hi h0 201 2 + 1 := (o4 201 2 (by omega)).trans p1
      refine ⟨wh.at ?_ (fun k => ?_), s1.trans o1.symm, by rw [s1]; omega, fun k hk => ?_⟩
      · rw [o4 0 10 (by omega), p4 0 10 (by omega)]
      · rw [o4 273 k (by omega), p4 273 k (by omega)]
      · rw [s1] at hk
        by_cases y : k = Int32.toNatClampNeg (hi h0 201 2)
        · rw [y, o2, o3, o4 202 _ (by omega), o4 203 _ (by omega), p2, p3, b8 x1 (by omega) (by omega)]
          exact ⟨rfl, rfl, by omega, by omega⟩
        · have := w3 k (by omega)
          rw [o4 202 k (by omega), o4 203 k (by omega), o4 271 k (by omega), o4 272 k (by omega), p4 202 k (by omega), p4 203 k (by omega), p4 271 k (by omega), p4 272 k (by omega)]
          exact this
    · exfalso; omega
  · rcases r2 with ⟨b1, _⟩ | ⟨b1, b2, b3⟩
    · exfalso; omega
    · refine ⟨a2.trans b2.symm, ?_⟩
      rw [b3, a3]
      exact ⟨wh, w1, w2, w3⟩
theorem fg_ie {q1 q2 : Int32 × Hp} {n1 n2 : Nat} (w : Ie h0) (e1 : F_X11_forget n1 h0 = some q1) (e2 : F_X12_forget n2 q1.2 = some q2) : q1.1 = q2.1 ∧ Ie q2.2 := by
  have r1 : Pc (F_X11_forget n1 h0) (fun q => q.1 = hi h0 201 2 ∧ q.2 = wrI h0 201 2 0) := by
    unfold F_X11_forget F_X2_clear
    exact Pc.bind (Q := fun g => g = wrI h0 201 2 0) (Pc.ret rfl) (fun g hg => Pc.ret ⟨rfl, hg⟩)
  have r2 : Pc (F_X12_forget n2 q1.2) (fun q => q.1 = hi q1.2 226 65 ∧ q.2 = wrI q1.2 226 65 0) := by
    unfold F_X12_forget
    exact Pc.ret ⟨rfl, rfl⟩
  obtain ⟨a1, a2⟩ := r1 q1 e1
  obtain ⟨b1, b2⟩ := r2 q2 e2
  obtain ⟨wh, w1, w2, w3⟩ := w
  have f0 := lit_0
  have e5 : hi q1.2 226 65 = hi h0 226 65 := by rw [a2, hi_wrI, if_neg (by decide)]
  have r (a k : Nat) (m : ¬ ((a = 201 ∧ k = 2) ∨ (a = 226 ∧ k = 65))) : hi q2.2 a k = hi h0 a k := by
    rw [b2, hi_wrI, if_neg (by omega), a2, hi_wrI, if_neg (by omega)]
  have s1 : hi q2.2 201 2 = 0 := by rw [b2, hi_wrI, if_neg (by decide), a2, hi_wrI, if_pos ⟨rfl, rfl⟩]
  have s2 : hi q2.2 226 65 = 0 := by rw [b2, hi_wrI, if_pos ⟨rfl, rfl⟩]
  refine ⟨by rw [a1, b1, e5, w1], wh.at (r 0 10 (by omega)) (fun k => r 273 k (by omega)), s1.trans s2.symm, by rw [s1]; omega, fun k hk => ?_⟩
  rw [s1] at hk
  exfalso; omega
/-- one of the three -/
theorem ez_three (c1 : 0 ≤ x1.toInt) (c2 : x1.toInt < 3) : x1 = 0 ∨ x1 = 1 ∨ x1 = 2 := by
  have f0 := lit_0
  have f1 := lit_1
  have f2 := lit_2
  by_cases y : x1.toInt = 0
  · exact Or.inl (Int32.toInt_inj.mp (by omega))
  · by_cases z : x1.toInt = 1
    · exact Or.inr (Or.inl (Int32.toInt_inj.mp (by omega)))
    · exact Or.inr (Or.inr (Int32.toInt_inj.mp (by omega)))
theorem ezM_0 (a b c : Bool) : ezM a b c ||| ((1 : Int32) <<< ((0 : Int32) &&& 31)) = ezM true b c := by
  cases a <;> cases b <;> cases c <;> decide
theorem ezM_1 (a b c : Bool) : ezM a b c ||| ((1 : Int32) <<< ((1 : Int32) &&& 31)) = ezM a true c := by
  cases a <;> cases b <;> cases c <;> decide
theorem ezM_2 (a b c : Bool) : ezM a b c ||| ((1 : Int32) <<< ((2 : Int32) &&& 31)) = ezM a b true := by
  cases a <;> cases b <;> cases c <;> decide
theorem ezS_0 (a b c : Bool) : (((ezM a b c).toUInt32 >>> ((0 : Int32).toUInt32 &&& Int32.toUInt32 31)).toInt32) &&& (1 : Int32) = ezB a := by
  cases a <;> cases b <;> cases c <;> decide
theorem ezS_1 (a b c : Bool) : (((ezM a b c).toUInt32 >>> ((1 : Int32).toUInt32 &&& Int32.toUInt32 31)).toInt32) &&& (1 : Int32) = ezB b := by
  cases a <;> cases b <;> cases c <;> decide
theorem ezS_2 (a b c : Bool) : (((ezM a b c).toUInt32 >>> ((2 : Int32).toUInt32 &&& Int32.toUInt32 31)).toInt32) &&& (1 : Int32) = ezB c := by
  cases a <;> cases b <;> cases c <;> decide
theorem ezB_nar (a : Bool) : vp_nar .boolean (ezB a) = ezB a := by cases a <;> decide
theorem ez_hold11 : Pc (F_X11_hold n h x1) (fun q => (¬ (0 ≤ x1.toInt ∧ x1.toInt < 3) ∧ q.2 = h) ∨ ((0 ≤ x1.toInt ∧ x1.toInt < 3) ∧ hi q.2 0 10 = (hi h 0 10 ||| ((1 : Int32) <<< (x1 &&& 31))) ∧ ∀ a k, ezC a k → ¬ (a = 0 ∧ k = 10) → hi q.2 a k = hi h a k)) := by
  have f0 := lit_0
  have f3 := lit_3
  unfold F_X11_hold
  refine Pc.lt (fun c1 => Pc.ret (Or.inl ⟨by omega, rfl⟩)) (fun c1 => ?_)
  refine Pc.lt (fun c2 => Pc.chk (fun _ => ?_)) (fun c2 => Pc.ret (Or.inl ⟨by omega, rfl⟩))
  have n1 := ncT (show 0 ≤ x1.toInt by omega)
  refine Pc.bind zf_X8_become (fun q4 h4 => Pc.ret (Or.inr ⟨⟨by omega, by omega⟩, ?_, fun a k c m => ?_⟩))
  · have k4 : ezK h q4 := ezK.z h4 (fun x k z => by unfold ezC; omega)
    show hi (wrI q4 0 10 _) 0 10 = _
    rw [hi_wrI, if_pos ⟨rfl, rfl⟩, k4 0 10 (by unfold ezC; omega)]
  · have k4 : ezK h q4 := ezK.z h4 (fun x k z => by unfold ezC; omega)
    show hi (wrI q4 0 10 _) a k = _
    rw [hi_wrI, if_neg m]
    exact k4 a k c
theorem ez_hold12 : Pc (F_X12_hold n h x1) (fun q => (¬ (0 ≤ x1.toInt ∧ x1.toInt < 3) ∧ q.2 = h) ∨ ((0 ≤ x1.toInt ∧ x1.toInt < 3) ∧ hi q.2 273 (Int32.toNatClampNeg x1) = 1 ∧ ∀ a k, ezC a k → ¬ (a = 273 ∧ k = Int32.toNatClampNeg x1) → hi q.2 a k = hi h a k)) := by
  have f0 := lit_0
  have f2 := lit_2
  unfold F_X12_hold
  refine Pc.bind ez_in (fun q4 h4 => ?_)
  obtain ⟨t1, t2⟩ := h4
  refine Pc.eq (fun c1 => Pc.ret (Or.inl ⟨by omega, t1⟩)) (fun c1 => Pc.chk (fun _ => ?_))
  rw [t1]
  refine Pc.mono (zw_X12_hold n 20 _ x1 0) (fun q hq => Or.inr ⟨⟨by omega, by omega⟩, ?_, fun a k c m => ?_⟩)
  · have k4 : ezK (wrI h 273 (Int32.toNatClampNeg x1) 1) q.2 := ezK.z hq (fun x k z => by unfold ezC; omega)
    rw [k4 273 _ (by unfold ezC; omega), hi_wrI, if_pos ⟨rfl, rfl⟩]
  · have k4 : ezK (wrI h 273 (Int32.toNatClampNeg x1) 1) q.2 := ezK.z hq (fun x k z => by unfold ezC; omega)
    rw [k4 a k c, hi_wrI, if_neg m]
theorem hd_ie {q1 q2 : Int32 × Hp} {n1 n2 : Nat} (w : Ie h0) (e1 : F_X11_hold n1 h0 x1 = some q1) (e2 : F_X12_hold n2 q1.2 x1 = some q2) : Ie q2.2 := by
  rcases ez_hold11 q1 e1 with ⟨a1, a2⟩ | ⟨a1, a2, a3⟩
  · rcases ez_hold12 q2 e2 with ⟨b1, b2⟩ | ⟨b1, _⟩
    · rw [b2, a2]; exact w
    · exact absurd b1 a1
  · rcases ez_hold12 q2 e2 with ⟨b1, _⟩ | ⟨b1, b2, b3⟩
    · exact absurd a1 b1
    · have r (a k : Nat) (c : ezC a k) (m1 : ¬ (a = 0 ∧ k = 10)) (m2 : ¬ (a = 273 ∧ k = Int32.toNatClampNeg x1)) : hi q2.2 a k = hi h0 a k := (b3 a k c m2).trans (a3 a k c m1)
      have e0 : hi q2.2 0 10 = (hi h0 0 10 ||| ((1 : Int32) <<< (x1 &&& 31))) := (b3 0 10 (by unfold ezC; omega) (by omega)).trans a2
      obtain ⟨⟨u, v, t, i1, i2, i3, i4⟩, w1, w2, w3⟩ := w
      have s1 : hi q2.2 201 2 = hi h0 201 2 := r 201 2 (by unfold ezC; omega) (by omega) (by omega)
      refine ⟨?_, ?_⟩
      · rcases ez_three a1.1 a1.2 with z | z | z
        · subst z
          have k0 : Int32.toNatClampNeg (0 : Int32) = 0 := by decide
          rw [k0] at b2 r
          refine ⟨true, v, t, ?_, b2, ?_, ?_⟩
          · rw [e0, i1, ezM_0]
          · rw [r 273 1 (by unfold ezC; omega) (by omega) (by omega)]; exact i3
          · rw [r 273 2 (by unfold ezC; omega) (by omega) (by omega)]; exact i4
        · subst z
          have k0 : Int32.toNatClampNeg (1 : Int32) = 1 := by decide
          rw [k0] at b2 r
          refine ⟨u, true, t, ?_, ?_, b2, ?_⟩
          · rw [e0, i1, ezM_1]
          · rw [r 273 0 (by unfold ezC; omega) (by omega) (by omega)]; exact i2
          · rw [r 273 2 (by unfold ezC; omega) (by omega) (by omega)]; exact i4
        · subst z
          have k0 : Int32.toNatClampNeg (2 : Int32) = 2 := by decide
          rw [k0] at b2 r
          refine ⟨u, v, true, ?_, ?_, ?_, b2⟩
          · rw [e0, i1, ezM_2]
          · rw [r 273 0 (by unfold ezC; omega) (by omega) (by omega)]; exact i2
          · rw [r 273 1 (by unfold ezC; omega) (by omega) (by omega)]; exact i3
      · unfold ezTold
        rw [s1, r 226 65 (by unfold ezC; omega) (by omega) (by omega)]
        refine ⟨w1, w2, fun k hk => ?_⟩
        rw [r 202 k (by unfold ezC; omega) (by omega) (by omega), r 203 k (by unfold ezC; omega) (by omega) (by omega), r 271 k (by unfold ezC; omega) (by omega) (by omega), r 272 k (by unfold ezC; omega) (by omega) (by omega)]
        exact w3 k hk
theorem ez_rest11 : Pc (F_X11_restore n h x1) (fun q => (¬ (0 ≤ x1.toInt ∧ x1.toInt < 3) ∧ q.1 = 0) ∨ ((0 ≤ x1.toInt ∧ x1.toInt < 3) ∧ (((hi h 0 10).toUInt32 >>> (x1.toUInt32 &&& Int32.toUInt32 31)).toInt32 &&& (1 : Int32) = 0 ∧ q.1 = 0 ∨ ¬ ((hi h 0 10).toUInt32 >>> (x1.toUInt32 &&& Int32.toUInt32 31)).toInt32 &&& (1 : Int32) = 0 ∧ q.1 = 1))) := by
  have f0 := lit_0
  have f3 := lit_3
  unfold F_X11_restore
  refine Pc.lt (fun c1 => Pc.ret (Or.inl ⟨by omega, rfl⟩)) (fun c1 => ?_)
  refine Pc.le (fun c2 => Pc.ret (Or.inl ⟨by omega, rfl⟩)) (fun c2 => ?_)
  refine Pc.ite (fun c3 => Pc.ret (Or.inr ⟨⟨by omega, by omega⟩, Or.inl ⟨c3, rfl⟩⟩)) (fun c3 => Pc.chk (fun _ => ?_))
  refine Pc.bind zf_X8_become (fun q5 _ => ?_)
  exact Pc.bind zf_X6_clear (fun q7 _ => Pc.ret (Or.inr ⟨⟨by omega, by omega⟩, Or.inr ⟨c3, rfl⟩⟩))
theorem ez_restW : ∀ (n : Nat) (hd : Nat) (h : Hp) (l1 l2 : Int32), Pc (W_X12_restore n hd h l1 l2) (fun q => q.1 = 1) := by
  intro n
  induction n with
  | zero => intro hd h l1 l2; exact Pc.no
  | succ n ih =>
    intro hd h l1 l2
    rw [u_X12_restore]
    refine Pc.ite (fun _ => ?_) (fun _ => Pc.no)
    exact Pc.ite (fun _ => Pc.ret rfl) (fun _ => Pc.chk (fun _ => Pc.chk (fun _ => ih _ _ _ _)))
theorem ez_rest12 : Pc (F_X12_restore n h x1) (fun q => (¬ (0 ≤ x1.toInt ∧ x1.toInt < 3) ∧ q.1 = 0) ∨ ((0 ≤ x1.toInt ∧ x1.toInt < 3) ∧ (vp_nar .boolean (hi h 273 (Int32.toNatClampNeg x1)) = 0 ∧ q.1 = 0 ∨ ¬ vp_nar .boolean (hi h 273 (Int32.toNatClampNeg x1)) = 0 ∧ q.1 = 1))) := by
  have f0 := lit_0
  have f2 := lit_2
  unfold F_X12_restore
  refine Pc.bind ez_in (fun q4 h4 => ?_)
  obtain ⟨t1, t2⟩ := h4
  rw [t1]
  refine Pc.eq (fun c1 => Pc.ret (Or.inl ⟨by omega, rfl⟩)) (fun c1 => Pc.chk (fun _ => ?_))
  refine Pc.ite (fun c3 => Pc.ret (Or.inr ⟨⟨by omega, by omega⟩, Or.inl ⟨c3, rfl⟩⟩)) (fun c3 => ?_)
  exact Pc.mono (ez_restW n 22 h x1 0) (fun q hq => Or.inr ⟨⟨by omega, by omega⟩, Or.inr ⟨c3, hq⟩⟩)
theorem rs_ie {q1 q2 : Int32 × Hp} {n1 n2 : Nat} (w : Ie h0) (e1 : F_X11_restore n1 h0 x1 = some q1) (e2 : F_X12_restore n2 q1.2 x1 = some q2) : q1.1 = q2.1 ∧ Ie q2.2 := by
  have k1 := frZ.hr (zf_X11_restore q1 e1) (fun x k z => by omega)
  have z1 : ezK h0 q1.2 := ezK.z (zf_X11_restore q1 e1) (fun x k z => by unfold ezC; omega)
  have z2 : ezK q1.2 q2.2 := ezK.z (zf_X12_restore q2 e2) (fun x k z => by unfold ezC; omega)
  refine ⟨?_, w.ke (z1.tr z2)⟩
  obtain ⟨⟨u, v, t, i1, i2, i3, i4⟩, -⟩ := w
  have same (b : Bool) (r1 : ezB b = 0 ∧ q1.1 = 0 ∨ ¬ ezB b = 0 ∧ q1.1 = 1) (r2 : ezB b = 0 ∧ q2.1 = 0 ∨ ¬ ezB b = 0 ∧ q2.1 = 1) : q1.1 = q2.1 := by
    rcases r1 with ⟨a, a'⟩ | ⟨a, a'⟩
    · rcases r2 with ⟨c, c'⟩ | ⟨c, c'⟩
      · rw [a', c']
      · exact absurd a c
    · rcases r2 with ⟨c, c'⟩ | ⟨c, c'⟩
      · exact absurd c a
      · rw [a', c']
  rcases ez_rest11 q1 e1 with ⟨a1, a2⟩ | ⟨a1, a2⟩
  · rcases ez_rest12 q2 e2 with ⟨b1, b2⟩ | ⟨b1, _⟩
    · rw [a2, b2]
    · exact absurd b1 a1
  · rcases ez_rest12 q2 e2 with ⟨b1, _⟩ | ⟨b1, b2⟩
    · exact absurd a1 b1
    · rw [i1] at a2
      rw [k1 273 _ (by decide)] at b2
      rcases ez_three a1.1 a1.2 with z | z | z
      · subst z
        have k0 : Int32.toNatClampNeg (0 : Int32) = 0 := by decide
        rw [k0, i2, ezB_nar] at b2
        rw [ezS_0] at a2
        exact same u a2 b2
      · subst z
        have k0 : Int32.toNatClampNeg (1 : Int32) = 1 := by decide
        rw [k0, i3, ezB_nar] at b2
        rw [ezS_1] at a2
        exact same v a2 b2
      · subst z
        have k0 : Int32.toNatClampNeg (2 : Int32) = 2 := by decide
        rw [k0, i4, ezB_nar] at b2
        rw [ezS_2] at a2
        exact same t a2 b2
end ET
end
section
/-! HOW MANY BITS -/
def cntB (f : Nat → Bool) : Nat → Nat
  | 0 => 0
  | n + 1 => cntB f n + (f n).toNat
theorem cntB_cg {f g : Nat → Bool} (n : Nat) (h : ∀ i, i < n → f i = g i) : cntB f n = cntB g n := by
  induction n with
  | zero => rfl
  | succ n ih =>
    show cntB f n + (f n).toNat = cntB g n + (g n).toNat
    rw [ih (fun i hi => h i (by omega)), h n (by omega)]
theorem cntB_add (f : Nat → Bool) (m n : Nat) : cntB f (m + n) = cntB f m + cntB (fun i => f (m + i)) n := by
  induction n with
  | zero => rfl
  | succ n ih =>
    show cntB f (m + n) + (f (m + n)).toNat = cntB f m + (cntB (fun i => f (m + i)) n + (f (m + n)).toNat)
    rw [ih]; omega
theorem cntB_no {f : Nat → Bool} (n : Nat) (h : ∀ i, i < n → f i = false) : cntB f n = 0 := by
  induction n with
  | zero => rfl
  | succ n ih =>
    show cntB f n + (f n).toNat = 0
    rw [ih (fun i hi => h i (by omega)), h n (by omega)]
    rfl
theorem cntB_all {f : Nat → Bool} (n : Nat) (h : ∀ i, i < n → f i = true) : cntB f n = n := by
  induction n with
  | zero => rfl
  | succ n ih =>
    show cntB f n + (f n).toNat = n + 1
    rw [ih (fun i hi => h i (by omega)), h n (by omega)]
    rfl
theorem cntB_le (f : Nat → Bool) (n : Nat) : cntB f n ≤ n := by
  induction n with
  | zero => exact Nat.le_refl 0
  | succ n ih =>
    show cntB f n + (f n).toNat ≤ n + 1
    have : (f n).toNat ≤ 1 := by cases f n <;> decide
    omega
theorem an8 {a b a' b' : Nat} (h : b < 256) (h' : b' < 256) : (256 * a + b) &&& (256 * a' + b') = 256 * (a &&& a') + (b &&& b') := by
  have h2 : b < 2 ^ 8 := h
  have h2' : b' < 2 ^ 8 := h'
  have hb : b &&& b' < 2 ^ 8 := Nat.and_lt_two_pow b h2'
  have e (x : Nat) : 256 * x = 2 ^ 8 * x := rfl
  apply Nat.eq_of_testBit_eq
  intro i
  rw [Nat.testBit_and, e a, e a', e (a &&& a'), Nat.testBit_two_pow_mul_add a h2 i, Nat.testBit_two_pow_mul_add a' h2' i, Nat.testBit_two_pow_mul_add (a &&& a') hb i]
  by_cases z : i < 8
  · rw [if_pos z, if_pos z, if_pos z, Nat.testBit_and]
  · rw [if_neg z, if_neg z, if_neg z, Nat.testBit_and]
def v4 (a3 a2 a1 a0 : Nat) : Nat := 256 * (256 * (256 * a3 + a2) + a1) + a0
section V4
variable {a3 a2 a1 a0 b3 b2 b1 b0 m3 m2 m1 m0 : Nat}
theorem an4 (h2 : a2 < 256) (h1 : a1 < 256) (h0 : a0 < 256) (k2 : m2 < 256) (k1 : m1 < 256) (k0 : m0 < 256) : v4 a3 a2 a1 a0 &&& v4 m3 m2 m1 m0 = v4 (a3 &&& m3) (a2 &&& m2) (a1 &&& m1) (a0 &&& m0) := by
  unfold v4
  rw [an8 h0 k0, an8 h1 k1, an8 h2 k2]
theorem v4_add : v4 a3 a2 a1 a0 + v4 b3 b2 b1 b0 = v4 (a3 + b3) (a2 + b2) (a1 + b1) (a0 + b0) := by
  unfold v4
  omega
theorem v4_sub (h3 : b3 ≤ a3) (h2 : b2 ≤ a2) (h1 : b1 ≤ a1) (h0 : b0 ≤ a0) : v4 a3 a2 a1 a0 - v4 b3 b2 b1 b0 = v4 (a3 - b3) (a2 - b2) (a1 - b1) (a0 - b0) := by
  unfold v4
  omega
theorem v4_le (h3 : b3 ≤ a3) (h2 : b2 ≤ a2) (h1 : b1 ≤ a1) (h0 : b0 ≤ a0) : v4 b3 b2 b1 b0 ≤ v4 a3 a2 a1 a0 := by
  unfold v4
  omega
theorem v4_lt (h3 : a3 < 256) (h2 : a2 < 256) (h1 : a1 < 256) (h0 : a0 < 256) : v4 a3 a2 a1 a0 < 4294967296 := by
  unfold v4
  omega
end V4
def s8 (b : Nat) : Nat := (b / 2) &&& 85
def d8 (b : Nat) : Nat := b - s8 b
def t8 (b : Nat) : Nat := (d8 b &&& 51) + ((d8 b / 4) &&& 51)
def p8 (b : Nat) : Nat := cntB (fun i => Nat.testBit b i) 8
theorem s8_f : ∀ b, b < 256 → s8 b ≤ b ∧ d8 b < 256 ∧ (t8 b % 16 ≤ 4 ∧ t8 b / 16 ≤ 4) ∧ p8 b ≤ 8 := by decide +kernel
theorem s8_m : ∀ b, b < 256 → ∀ p, p < 2 → ((b / 2 + 128 * p) &&& 85) = s8 b := by decide +kernel
theorem t8_m : ∀ b, b < 256 → ∀ p, p < 4 → ((d8 b / 4 + 64 * p) &&& 51) = ((d8 b / 4) &&& 51) := by decide +kernel
theorem t8_b : ∀ b, b < 256 → (d8 b &&& 51) < 128 ∧ ((d8 b / 4) &&& 51) < 128 := by decide +kernel
theorem p8_m : ∀ b, b < 256 → ∀ p, p < 5 → ((t8 b + (t8 b / 16 + 16 * p)) &&& 15) = p8 b := by decide +kernel
def bn (x : Int32) : Nat := x.toBitVec.toNat
theorem bn_lt (x : Int32) : bn x < 4294967296 := x.toBitVec.isLt
theorem bnA (a b : Int32) : bn (a &&& b) = bn a &&& bn b := by
  unfold bn
  rw [Int32.toBitVec_and, BitVec.toNat_and]
theorem bnP (a b : Int32) (h : bn a + bn b < 4294967296) : bn (a + b) = bn a + bn b := by
  unfold bn at h ⊢
  rw [Int32.toBitVec_add, BitVec.toNat_add]
  exact Nat.mod_eq_of_lt h
theorem bnM (a b : Int32) (h : bn b ≤ bn a) : bn (a - b) = bn a - bn b := by
  have l := bn_lt a
  unfold bn at h l ⊢
  rw [Int32.toBitVec_sub, BitVec.toNat_sub]
  omega
theorem bn_r1 (y : Int32) : bn ((y.toUInt32 >>> ((1 : Int32).toUInt32 &&& Int32.toUInt32 31)).toInt32) = bn y / 2 := by
  show (y.toBitVec >>> (1 : Nat)).toNat = y.toBitVec.toNat / 2 ^ 1
  rw [BitVec.toNat_ushiftRight, Nat.shiftRight_eq_div_pow]
theorem bn_r2 (y : Int32) : bn ((y.toUInt32 >>> ((2 : Int32).toUInt32 &&& Int32.toUInt32 31)).toInt32) = bn y / 4 := by
  show (y.toBitVec >>> (2 : Nat)).toNat = y.toBitVec.toNat / 2 ^ 2
  rw [BitVec.toNat_ushiftRight, Nat.shiftRight_eq_div_pow]
theorem bn_r4 (y : Int32) : bn ((y.toUInt32 >>> ((4 : Int32).toUInt32 &&& Int32.toUInt32 31)).toInt32) = bn y / 16 := by
  show (y.toBitVec >>> (4 : Nat)).toNat = y.toBitVec.toNat / 2 ^ 4
  rw [BitVec.toNat_ushiftRight, Nat.shiftRight_eq_div_pow]
theorem bn_r8 (y : Int32) : bn ((y.toUInt32 >>> ((8 : Int32).toUInt32 &&& Int32.toUInt32 31)).toInt32) = bn y / 256 := by
  show (y.toBitVec >>> (8 : Nat)).toNat = y.toBitVec.toNat / 2 ^ 8
  rw [BitVec.toNat_ushiftRight, Nat.shiftRight_eq_div_pow]
theorem bn_r16 (y : Int32) : bn ((y.toUInt32 >>> ((16 : Int32).toUInt32 &&& Int32.toUInt32 31)).toInt32) = bn y / 65536 := by
  show (y.toBitVec >>> (16 : Nat)).toNat = y.toBitVec.toNat / 2 ^ 16
  rw [BitVec.toNat_ushiftRight, Nat.shiftRight_eq_div_pow]
def bc1 (x : Int32) : Int32 := x - (((x.toUInt32 >>> ((1 : Int32).toUInt32 &&& Int32.toUInt32 31)).toInt32) &&& (1431655765 : Int32))
def bc2 (y : Int32) : Int32 := (y &&& (858993459 : Int32)) + (((y.toUInt32 >>> ((2 : Int32).toUInt32 &&& Int32.toUInt32 31)).toInt32) &&& (858993459 : Int32))
def bc3 (y : Int32) : Int32 := (y + ((y.toUInt32 >>> ((4 : Int32).toUInt32 &&& Int32.toUInt32 31)).toInt32)) &&& (252645135 : Int32)
def bc4 (y : Int32) : Int32 := y + ((y.toUInt32 >>> ((8 : Int32).toUInt32 &&& Int32.toUInt32 31)).toInt32)
def bc5 (y : Int32) : Int32 := y + ((y.toUInt32 >>> ((16 : Int32).toUInt32 &&& Int32.toUInt32 31)).toInt32)
def bcI (x : Int32) : Int32 := bc5 (bc4 (bc3 (bc2 (bc1 x)))) &&& (63 : Int32)
section BC
variable {x : Int32} {b3 b2 b1 b0 : Nat}
theorem bc1_v (h3 : b3 < 256) (h2 : b2 < 256) (h1 : b1 < 256) (h0 : b0 < 256) (e : bn x = v4 b3 b2 b1 b0) : bn (bc1 x) = v4 (d8 b3) (d8 b2) (d8 b1) (d8 b0) := by
  have m : bn (((x.toUInt32 >>> ((1 : Int32).toUInt32 &&& Int32.toUInt32 31)).toInt32) &&& (1431655765 : Int32)) = v4 (s8 b3) (s8 b2) (s8 b1) (s8 b0) := by
    have e1 : v4 b3 b2 b1 b0 / 2 = v4 (b3 / 2) (b2 / 2 + 128 * (b3 % 2)) (b1 / 2 + 128 * (b2 % 2)) (b0 / 2 + 128 * (b1 % 2)) := by
      unfold v4
      omega
    have e2 : bn (1431655765 : Int32) = v4 85 85 85 85 := by decide
    rw [bnA, bn_r1, e, e1, e2, an4 (by omega) (by omega) (by omega) (by decide) (by decide) (by decide), s8_m b2 h2 _ (by omega), s8_m b1 h1 _ (by omega), s8_m b0 h0 _ (by omega)]
    rfl
  have g3 := (s8_f b3 h3).1
  have g2 := (s8_f b2 h2).1
  have g1 := (s8_f b1 h1).1
  have g0 := (s8_f b0 h0).1
  unfold bc1
  rw [bnM _ _ (by rw [m, e]; exact v4_le g3 g2 g1 g0), m, e, v4_sub g3 g2 g1 g0]
  rfl
theorem bc2_v (h3 : b3 < 256) (h2 : b2 < 256) (h1 : b1 < 256) (h0 : b0 < 256) (e : bn x = v4 (d8 b3) (d8 b2) (d8 b1) (d8 b0)) : bn (bc2 x) = v4 (t8 b3) (t8 b2) (t8 b1) (t8 b0) := by
  have g3 := (s8_f b3 h3).2.1
  have g2 := (s8_f b2 h2).2.1
  have g1 := (s8_f b1 h1).2.1
  have g0 := (s8_f b0 h0).2.1
  have k3 := t8_b b3 h3
  have k2 := t8_b b2 h2
  have k1 := t8_b b1 h1
  have k0 := t8_b b0 h0
  have e2 : bn (858993459 : Int32) = v4 51 51 51 51 := by decide
  have m1 : bn (x &&& (858993459 : Int32)) = v4 (d8 b3 &&& 51) (d8 b2 &&& 51) (d8 b1 &&& 51) (d8 b0 &&& 51) := by
    rw [bnA, e, e2, an4 g2 g1 g0 (by decide) (by decide) (by decide)]
  have m2 : bn (((x.toUInt32 >>> ((2 : Int32).toUInt32 &&& Int32.toUInt32 31)).toInt32) &&& (858993459 : Int32)) = v4 ((d8 b3 / 4) &&& 51) ((d8 b2 / 4) &&& 51) ((d8 b1 / 4) &&& 51) ((d8 b0 / 4) &&& 51) := by
    have e1 : v4 (d8 b3) (d8 b2) (d8 b1) (d8 b0) / 4 = v4 (d8 b3 / 4) (d8 b2 / 4 + 64 * (d8 b3 % 4)) (d8 b1 / 4 + 64 * (d8 b2 % 4)) (d8 b0 / 4 + 64 * (d8 b1 % 4)) := by
      unfold v4
      omega
    rw [bnA, bn_r2, e, e1, e2, an4 (by omega) (by omega) (by omega) (by decide) (by decide) (by decide), t8_m b2 h2 _ (by omega), t8_m b1 h1 _ (by omega), t8_m b0 h0 _ (by omega)]
  unfold bc2
  rw [bnP _ _ (by rw [m1, m2, v4_add]; exact v4_lt (by omega) (by omega) (by omega) (by omega)), m1, m2, v4_add]
  rfl
theorem bc3_v (h3 : b3 < 256) (h2 : b2 < 256) (h1 : b1 < 256) (h0 : b0 < 256) (e : bn x = v4 (t8 b3) (t8 b2) (t8 b1) (t8 b0)) : bn (bc3 x) = v4 (p8 b3) (p8 b2) (p8 b1) (p8 b0) := by
  have g3 := (s8_f b3 h3).2.2.1
  have g2 := (s8_f b2 h2).2.2.1
  have g1 := (s8_f b1 h1).2.2.1
  have g0 := (s8_f b0 h0).2.2.1
  have e2 : bn (252645135 : Int32) = v4 15 15 15 15 := by decide
  have e1 : v4 (t8 b3) (t8 b2) (t8 b1) (t8 b0) / 16 = v4 (t8 b3 / 16 + 16 * 0) (t8 b2 / 16 + 16 * (t8 b3 % 16)) (t8 b1 / 16 + 16 * (t8 b2 % 16)) (t8 b0 / 16 + 16 * (t8 b1 % 16)) := by
    unfold v4
    omega
  have m : bn (x + ((x.toUInt32 >>> ((4 : Int32).toUInt32 &&& Int32.toUInt32 31)).toInt32)) = v4 (t8 b3 + (t8 b3 / 16 + 16 * 0)) (t8 b2 + (t8 b2 / 16 + 16 * (t8 b3 % 16))) (t8 b1 + (t8 b1 / 16 + 16 * (t8 b2 % 16))) (t8 b0 + (t8 b0 / 16 + 16 * (t8 b1 % 16))) := by
    rw [bnP _ _ (by rw [bn_r4, e, e1, v4_add]; exact v4_lt (by omega) (by omega) (by omega) (by omega)), bn_r4, e, e1, v4_add]
  unfold bc3
  rw [bnA, m, e2, an4 (by omega) (by omega) (by omega) (by decide) (by decide) (by decide), p8_m b3 h3 0 (by decide), p8_m b2 h2 _ (by omega), p8_m b1 h1 _ (by omega), p8_m b0 h0 _ (by omega)]
theorem bc5_v (h3 : b3 ≤ 8) (h2 : b2 ≤ 8) (h1 : b1 ≤ 8) (h0 : b0 ≤ 8) (e : bn x = v4 b3 b2 b1 b0) : bn (bc5 (bc4 x) &&& (63 : Int32)) = b0 + b1 + b2 + b3 := by
  unfold v4 at e
  have d4 : bn x / 256 = 256 * (256 * b3 + b2) + b1 := by omega
  have m4 : bn (bc4 x) = bn x + bn x / 256 := by
    unfold bc4
    rw [bnP _ _ (by rw [bn_r8]; omega), bn_r8]
  have d5 : bn (bc4 x) / 65536 = 256 * b3 + (b2 + b3) := by omega
  have m5 : bn (bc5 (bc4 x)) = bn (bc4 x) + bn (bc4 x) / 65536 := by
    unfold bc5
    rw [bnP _ _ (by rw [bn_r16]; omega), bn_r16]
  have e2 : bn (63 : Int32) = 2 ^ 6 - 1 := by decide
  rw [bnA, e2, Nat.and_two_pow_sub_one_eq_mod, m5, d5, m4, d4, e]
  omega
theorem p8_of (N s : Nat) : p8 (N / 2 ^ s % 256) = cntB (fun i => Nat.testBit N (s + i)) 8 := by
  unfold p8
  refine cntB_cg 8 (fun i hi => ?_)
  show Nat.testBit (N / 2 ^ s % 2 ^ 8) i = Nat.testBit N (s + i)
  rw [Nat.testBit_mod_two_pow, decide_eq_true hi, Bool.true_and, Nat.testBit_div_two_pow, Nat.add_comm]
theorem bc_cnt (x : Int32) : bn (bcI x) = cntB (bt x) 32 := by
  have l := bn_lt x
  have q3 : bn x / 2 ^ 24 % 256 < 256 := Nat.mod_lt _ (by decide)
  have q2 : bn x / 2 ^ 16 % 256 < 256 := Nat.mod_lt _ (by decide)
  have q1 : bn x / 2 ^ 8 % 256 < 256 := Nat.mod_lt _ (by decide)
  have q0 : bn x / 2 ^ 0 % 256 < 256 := Nat.mod_lt _ (by decide)
  have e : bn x = v4 (bn x / 2 ^ 24 % 256) (bn x / 2 ^ 16 % 256) (bn x / 2 ^ 8 % 256) (bn x / 2 ^ 0 % 256) := by
    unfold v4
    omega
  have r := bc5_v (s8_f _ q3).2.2.2 (s8_f _ q2).2.2.2 (s8_f _ q1).2.2.2 (s8_f _ q0).2.2.2 (bc3_v q3 q2 q1 q0 (bc2_v q3 q2 q1 q0 (bc1_v q3 q2 q1 q0 e)))
  unfold bcI
  rw [r, p8_of, p8_of, p8_of, p8_of]
  have c1 := cntB_add (bt x) 24 8
  have c2 := cntB_add (bt x) 16 8
  have c3 := cntB_add (bt x) 8 8
  have c4 : cntB (fun i => Nat.testBit (bn x) (0 + i)) 8 = cntB (bt x) 8 := cntB_cg 8 (fun i _ => by rw [Nat.zero_add]; rfl)
  have d1 : cntB (fun i => Nat.testBit (bn x) (24 + i)) 8 = cntB (fun i => bt x (24 + i)) 8 := rfl
  have d2 : cntB (fun i => Nat.testBit (bn x) (16 + i)) 8 = cntB (fun i => bt x (16 + i)) 8 := rfl
  have d3 : cntB (fun i => Nat.testBit (bn x) (8 + i)) 8 = cntB (fun i => bt x (8 + i)) 8 := rfl
  rw [c4, d1, d2, d3]
  show _ = cntB (bt x) (24 + 8)
  have c2' : cntB (bt x) 24 = cntB (bt x) 16 + cntB (fun i => bt x (16 + i)) 8 := c2
  have c3' : cntB (bt x) 16 = cntB (bt x) 8 + cntB (fun i => bt x (8 + i)) 8 := c3
  omega
theorem bc_int (x : Int32) : (bcI x).toInt = (cntB (bt x) 32 : Nat) := by
  have h := bc_cnt x
  have l := cntB_le (bt x) 32
  show (bcI x).toBitVec.toInt = _
  have e : (bcI x).toBitVec.toNat = cntB (bt x) 32 := h
  rw [BitVec.toInt_eq_toNat_of_lt (by rw [e]; omega), e]
theorem pc_bits {n : Nat} {h : Hp} : Pc (F_J6_bitCount_0f7a4 n h x) (fun q => q.2 = h ∧ q.1.toInt = (cntB (bt x) 32 : Nat)) := by
  have e : F_J6_bitCount_0f7a4 n h x = some (bcI x, h) := rfl
  rw [e]
  exact Pc.ret ⟨rfl, bc_int x⟩
/-- the lowest one -/
theorem low_bits (x : Int32) (i : Nat) (hi : i < 32) (h1 : bt x i = true) (h2 : ∀ m, m < i → bt x m = false) : cntB (bt ((x &&& (-x)) - 1)) 32 = i := by
  have e1 : (x &&& (-x)).toBitVec = BitVec.twoPow 32 i := by
    apply BitVec.eq_of_getLsbD_eq
    intro j hj
    rw [Int32.toBitVec_and, BitVec.getLsbD_and, Int32.toBitVec_neg, BitVec.getLsbD_neg, BitVec.getLsbD_twoPow, decide_eq_true hj, Bool.true_and, decide_eq_true hi, Bool.true_and]
    rcases Nat.lt_trichotomy j i with z | z | z
    · have a : x.toBitVec.getLsbD j = false := h2 j z
      rw [a, Bool.false_and, decide_eq_false (by omega)]
    · subst z
      have a : x.toBitVec.getLsbD j = true := h1
      have b : ¬ ∃ k, k < j ∧ x.toBitVec.getLsbD k = true := fun ⟨k, k1, k2⟩ => by
        have c : x.toBitVec.getLsbD k = false := h2 k k1
        rw [c] at k2
        exact Bool.noConfusion k2
      rw [a, decide_eq_false b, decide_eq_true rfl]
      rfl
    · have b : ∃ k, k < j ∧ x.toBitVec.getLsbD k = true := ⟨i, z, h1⟩
      rw [decide_eq_true b, decide_eq_false (show ¬ i = j by omega)]
      cases x.toBitVec.getLsbD j <;> rfl
  have pw : 2 ^ i < 2 ^ 32 := Nat.pow_lt_pow_right (by decide) hi
  have p1 : 1 ≤ 2 ^ i := Nat.one_le_two_pow
  have e2 : bn (x &&& (-x)) = 2 ^ i := by
    unfold bn
    rw [e1, BitVec.toNat_twoPow, Nat.mod_eq_of_lt pw]
  have e3 : bn (1 : Int32) = 1 := by decide
  have e4 : bn ((x &&& (-x)) - 1) = 2 ^ i - 1 := by
    rw [bnM _ _ (by rw [e2, e3]; exact p1), e2, e3]
  have e5 (j : Nat) : bt ((x &&& (-x)) - 1) j = decide (j < i) := by
    show Nat.testBit (bn ((x &&& (-x)) - 1)) j = _
    rw [e4, Nat.testBit_two_pow_sub_one]
  have s : cntB (bt ((x &&& (-x)) - 1)) (i + (32 - i)) = cntB (bt ((x &&& (-x)) - 1)) i + cntB (fun j => bt ((x &&& (-x)) - 1) (i + j)) (32 - i) := cntB_add _ i (32 - i)
  rw [show i + (32 - i) = 32 by omega, cntB_all i (fun j hj => by rw [e5, decide_eq_true hj]), cntB_no (32 - i) (fun j hj => by rw [e5]; exact decide_eq_false (by omega))] at s
  exact s
theorem low_none : cntB (bt (((0 : Int32) &&& (-0)) - 1)) 32 = 32 := cntB_all 32 (by decide)
theorem pc_lowest {n : Nat} {h : Hp} : Pc (F_X11_lowest n h x) (fun q => q.2 = h ∧ (x = 0 → q.1.toInt = 32) ∧ ∀ i : Nat, i < 32 → bt x i = true → (∀ m, m < i → bt x m = false) → q.1.toInt = (i : Int)) := by
  unfold F_X11_lowest
  refine Pc.bind pc_bits (fun q1 hq => Pc.ret ⟨hq.1, fun z => ?_, fun i hi h1 h2 => ?_⟩)
  · show q1.1.toInt = 32
    have := hq.2
    rw [z, low_none] at this
    exact this
  · show q1.1.toInt = (i : Int)
    rw [hq.2, low_bits x i hi h1 h2]
end BC
end
section
/-! WHAT FITS: which tunes sound at a time, and which fit what was told -/
/-- tunes before those of beat c + 2 -/
def pr5 : Nat → Nat
  | 0 => 0
  | c + 1 => pr5 c + (c + 2)
theorem pr5_le : ∀ c, c < 6 → pr5 c ≤ 20 := by decide
theorem pr5_mono {a : Nat} (b : Nat) (h : a ≤ b) : pr5 a ≤ pr5 b := by
  induction b with
  | zero =>
    rw [show a = 0 by omega]
    exact Nat.le_refl _
  | succ b ih =>
    by_cases z : a = b + 1
    · rw [z]
      exact Nat.le_refl _
    · have := ih (by omega)
      show pr5 a ≤ pr5 b + (b + 2)
      omega
theorem pr5_lt {c' c o : Nat} (h : c' < c) (ho : o < c' + 2) : pr5 c' + o < pr5 c := by
  have := pr5_mono (a := c' + 1) c h
  have e : pr5 (c' + 1) = pr5 c' + (c' + 2) := rfl
  omega
theorem cntB_pos {f : Nat → Bool} {i : Nat} (h : f i = true) (n : Nat) (hn : i < n) : 1 ≤ cntB f n := by
  induction n with
  | zero => omega
  | succ n ih =>
    show 1 ≤ cntB f n + (f n).toNat
    by_cases z : i = n
    · subst z
      rw [h]
      exact Nat.le_add_left 1 _
    · have := ih (by omega)
      omega
theorem cntB_two (F S : Int32) (n : Nat) (hn : n ≤ 32) : cntB (bt (F &&& S)) n + cntB (bt (F &&& (S ^^^ (-1)))) n = cntB (bt F) n := by
  induction n with
  | zero => rfl
  | succ n ih =>
    have i1 := ih (by omega)
    show (cntB (bt (F &&& S)) n + (bt (F &&& S) n).toNat) + (cntB (bt (F &&& (S ^^^ (-1)))) n + (bt (F &&& (S ^^^ (-1))) n).toNat) = cntB (bt F) n + (bt F n).toNat
    have e : (bt (F &&& S) n).toNat + (bt (F &&& (S ^^^ (-1))) n).toNat = (bt F n).toNat := by
      rw [bt_and, bt_and, bt_not S (by omega)]
      cases bt F n <;> cases bt S n <;> rfl
    omega
theorem cnt20 {F : Int32} (h : ∀ j, 20 ≤ j → bt F j = false) : cntB (bt F) 32 = cntB (bt F) 20 := by
  have a : cntB (bt F) (20 + 12) = cntB (bt F) 20 + cntB (fun i => bt F (20 + i)) 12 := cntB_add (bt F) 20 12
  rw [cntB_no 12 (fun i _ => h (20 + i) (by omega))] at a
  exact a
theorem bt_20 : ∀ j, j < 20 → bt (1048575 : Int32) j = true := by decide
theorem bt_32 : ∀ j, j < 32 → 20 ≤ j → bt (1048575 : Int32) j = false := by decide
/-- the tunes that sound at a time, those of the first c beats -/
def soA (S t : Int32) (c : Nat) : Prop := (∀ c', c' < c → ∀ o, o < c' + 2 → (bt S (pr5 c' + o) = true ↔ t.toInt % ((c' : Int) + 2) = (o : Int))) ∧ ∀ j, pr5 c ≤ j → bt S j = false
theorem so_loop {h : Hp} {l0 : Int32} (t0 : 0 ≤ l0.toInt) : ∀ (n : Nat) (l1 l2 l3 : Int32) (c : Nat), l3.toInt = (c : Int) + 2 → c ≤ 5 → l2.toInt = (pr5 c : Nat) → soA l1 l0 c → Pc (W_X2_soundingAt n 6 h l0 l1 l2 l3) (fun q => q.2 = h ∧ soA q.1 l0 5) := by
  intro n
  induction n with
  | zero => intro l1 l2 l3 c a b d s; exact Pc.no
  | succ n ih =>
    intro l1 l2 l3 c a b d s
    have f6 := lit_6
    have f1 := lit_1
    rw [u_X2_soundingAt]
    refine Pc.pos rfl ?_
    refine Pc.lt (fun c1 => Pc.ret ⟨rfl, ?_⟩) (fun c1 => Pc.ite (fun _ => Pc.no) (fun c2 => ?_))
    · have : c = 5 := by omega
      rw [this] at s
      exact s
    · have p1 := pr5_le c (by omega)
      have p2 := pr5_le (c + 1) (by omega)
      have p3 : pr5 (c + 1) = pr5 c + (c + 2) := rfl
      have m0 := rmT l0 l3 ((c : Int) + 2) a (by omega) t0
      have m1 := Int.emod_nonneg l0.toInt (show ((c : Int) + 2) ≠ 0 by omega)
      have m2 := Int.emod_lt_of_pos l0.toInt (show 0 < (c : Int) + 2 by omega)
      generalize em : (l0 - l0 / l3 * l3 : Int32) = m at m0 ⊢
      have a0 := adT l2 m (by omega) (by omega)
      generalize ea : (l2 + m : Int32) = w at a0 ⊢
      have n0 := ncT (show 0 ≤ w.toInt by omega)
      have a2 := adT l2 l3 (by omega) (by omega)
      have a3 := adT l3 1 (by omega) (by omega)
      refine ih _ (l2 + l3) (l3 + 1) (c + 1) (by omega) (by omega) (by omega) ⟨fun c' hc' o ho => ?_, fun j hj => ?_⟩
      · rw [bt_or, btL (show 0 ≤ w.toInt by omega) (by omega), Bool.or_eq_true, decide_eq_true_iff]
        by_cases z : c' = c
        · rw [z] at ho ⊢
          have k := s.2 (pr5 c + o) (by omega)
          rw [k]
          refine ⟨fun y => ?_, fun y => Or.inr ?_⟩
          · rcases y with y | y
            · exact Bool.noConfusion y
            · omega
          · omega
        · have l := pr5_lt (show c' < c by omega) ho
          have k := s.1 c' (by omega) o ho
          refine ⟨fun y => ?_, fun y => Or.inl (k.mpr y)⟩
          rcases y with y | y
          · exact k.mp y
          · exfalso; omega
      · rw [bt_or, btL (show 0 ≤ w.toInt by omega) (by omega), s.2 j (by omega), Bool.false_or]
        exact decide_eq_false (by omega)
theorem so_at {n : Nat} {h : Hp} {x1 : Int32} (t0 : 0 ≤ x1.toInt) : Pc (F_X2_soundingAt n h x1) (fun q => q.2 = h ∧ soA q.1 x1 5) := by
  have f2 := lit_2
  unfold F_X2_soundingAt
  exact so_loop t0 n 0 0 2 0 (by omega) (by decide) lit_0 ⟨fun c' hc' => absurd hc' (Nat.not_lt_zero c'), fun j _ => bt_zero j⟩
/-- a tune fits the first k that were told -/
def fiP (h : Hp) (k c o : Nat) : Prop := ∀ i, i < k → ((hi h 271 i).toInt % ((c : Int) + 2) = (o : Int) ↔ vp_nar .boolean (hi h 272 i) ≠ 0)
theorem fiP_succ {h : Hp} {k c o : Nat} : fiP h (k + 1) c o ↔ fiP h k c o ∧ ((hi h 271 k).toInt % ((c : Int) + 2) = (o : Int) ↔ vp_nar .boolean (hi h 272 k) ≠ 0) := by
  refine ⟨fun a => ⟨fun i hi' => a i (by omega), a k (by omega)⟩, fun a i hi' => ?_⟩
  by_cases z : i = k
  · rw [z]; exact a.2
  · exact a.1 i (by omega)
def fiB (F : Int32) (h : Hp) (k : Nat) : Prop := (∀ c, c < 5 → ∀ o, o < c + 2 → (bt F (pr5 c + o) = true ↔ fiP h k c o)) ∧ ∀ j, 20 ≤ j → bt F j = false
section FI
variable {h : Hp} {k : Nat}
theorem fi_loop {l1 : Int32} (hk : l1.toInt = (k : Int)) (ks : (k : Int) ≤ (hi h 201 2).toInt) (w : ezTold h) : ∀ (n : Nat) (l2 l3 : Int32) (i : Nat), l3.toInt = (i : Int) → i ≤ k → fiB l2 h i → Pc (W_X2_fitting n 5 h l1 l2 l3) (fun q => q.2 = h ∧ fiB q.1 h k) := by
  obtain ⟨w1, w2, w3⟩ := w
  intro n
  induction n with
  | zero => intro l2 l3 i a b s; exact Pc.no
  | succ n ih =>
    intro l2 l3 i a b s
    have f20 := lit_20
    have f1 := lit_1
    have n1 := ncT (show 0 ≤ l3.toInt by omega)
    have n2 : Int32.toNatClampNeg l3 = i := by omega
    rw [u_X2_fitting, n2]
    refine Pc.pos rfl ?_
    refine Pc.le (fun c1 => Pc.ret ⟨rfl, ?_⟩) (fun c1 => ?_)
    · have : i = k := by omega
      rw [this] at s
      exact s
    refine Pc.le (fun c2 => by exfalso; omega) (fun c2 => ?_)
    refine Pc.le (fun c3 => by exfalso; omega) (fun c3 => Pc.chk (fun _ => ?_))
    obtain ⟨y1, y2, y3, y4⟩ := w3 i (by omega)
    have e : vp_nar .byte (hi h 202 i) = hi h 271 i := by rw [narB, y1]; exact b8 _ (by omega) (by omega)
    rw [e]
    refine Pc.bind (so_at y3) (fun q5 hq => ?_)
    obtain ⟨g1, g2, g3⟩ := hq
    rw [g1]
    have a1 := adT l3 1 (by omega) (by omega)
    have p20 : pr5 5 = 20 := rfl
    refine Pc.chk (fun _ => Pc.ite (fun c4 => ?_) (fun c4 => ?_))
    · rw [y2] at c4
      refine ih _ (l3 + 1) (i + 1) (by omega) (by omega) ⟨fun c hc o ho => ?_, fun j hj => ?_⟩
      · have l := pr5_lt (show c < 5 by omega) ho
        rw [bt_and, bt_not q5.1 (by omega), fiP_succ, Bool.and_eq_true, s.1 c hc o ho]
        have k2 := g2 c hc o ho
        refine ⟨fun y => ⟨y.1, fun z => ?_, fun z => absurd c4 z⟩, fun y => ⟨y.1, ?_⟩⟩
        · rw [k2.mpr z] at y
          exact Bool.noConfusion y.2
        · cases z : bt q5.1 (pr5 c + o) with
          | false => rfl
          | true => exact absurd c4 (y.2.mp (k2.mp z))
      · rw [bt_and, s.2 j hj, Bool.false_and]
    · rw [y2] at c4
      refine ih _ (l3 + 1) (i + 1) (by omega) (by omega) ⟨fun c hc o ho => ?_, fun j hj => ?_⟩
      · rw [bt_and, fiP_succ, Bool.and_eq_true, s.1 c hc o ho, g2 c hc o ho]
        exact ⟨fun y => ⟨y.1, fun _ => c4, fun _ => y.2⟩, fun y => ⟨y.1, y.2.mpr c4⟩⟩
      · rw [bt_and, s.2 j hj, Bool.false_and]
theorem fi_class {n : Nat} {x1 : Int32} (hk : x1.toInt = (k : Int)) (ks : (k : Int) ≤ (hi h 201 2).toInt) (w : ezTold h) : Pc (F_X2_fitting n h x1) (fun q => q.2 = h ∧ fiB q.1 h k) := by
  unfold F_X2_fitting
  refine fi_loop hk ks w n 1048575 0 0 lit_0 (Nat.zero_le k) ⟨fun c hc o ho => ?_, fun j hj => ?_⟩
  · have l := pr5_lt (show c < 5 from hc) ho
    have p20 : pr5 5 = 20 := rfl
    rw [bt_20 _ (by omega)]
    exact ⟨fun _ i hi' => absurd hi' (Nat.not_lt_zero i), fun _ => rfl⟩
  · by_cases z : j < 32
    · exact bt_32 j z hj
    · exact bt_ge _ (by omega)
/-- the reference: does one fit -/
theorem df_loop {l1 l2 l3 : Int32} {c o : Nat} (hb : l1.toInt = (c : Int) + 2) (ho : l2.toInt = (o : Int)) (hk : l3.toInt = (k : Int)) (k20 : k ≤ 20) (w : ∀ i, i < k → 0 ≤ (hi h 271 i).toInt) : ∀ (n : Nat) (l4 : Int32) (i : Nat), l4.toInt = (i : Int) → i ≤ k → fiP h i c o → Pc (W_X12_doesFit n 3 h l1 l2 l3 l4) (fun q => q.2 = h ∧ (q.1.toInt ≠ 0 ↔ fiP h k c o)) := by
  intro n
  induction n with
  | zero => intro l4 i a b s; exact Pc.no
  | succ n ih =>
    intro l4 i a b s
    have f1 := lit_1
    have f0 := lit_0
    have n1 := ncT (show 0 ≤ l4.toInt by omega)
    have n2 : Int32.toNatClampNeg l4 = i := by omega
    rw [u_X12_doesFit, n2]
    refine Pc.pos rfl ?_
    refine Pc.le (fun c1 => Pc.ret ⟨rfl, ?_⟩) (fun c1 => Pc.chk (fun _ => Pc.ite (fun _ => Pc.no) (fun _ => ?_)))
    · have : i = k := by omega
      rw [this] at s
      exact ⟨fun _ => s, fun _ => by show (1 : Int32).toInt ≠ 0; omega⟩
    have a1 := adT l4 1 (by omega) (by omega)
    have m0 := rmT (hi h 271 i) l1 ((c : Int) + 2) hb (by omega) (w i (by omega))
    have bz := boT (hi h 272 i)
    have bad (y : ¬ ((hi h 271 i).toInt % ((c : Int) + 2) = (o : Int) ↔ vp_nar .boolean (hi h 272 i) ≠ 0)) : ((0 : Int32).toInt ≠ 0 ↔ fiP h k c o) := ⟨fun z => absurd f0 z, fun z => absurd (z i (by omega)) y⟩
    refine Pc.eq (fun c2 => Pc.chk (fun _ => Pc.eq (fun c3 => ?_) (fun c3 => Pc.ret ⟨rfl, bad (fun y => ?_)⟩))) (fun c2 => Pc.chk (fun _ => Pc.eq (fun c3 => ?_) (fun c3 => Pc.ret ⟨rfl, bad (fun y => ?_)⟩)))
    · refine ih (l4 + 1) (i + 1) (by omega) (by omega) (fiP_succ.mpr ⟨s, fun _ z => ?_, fun _ => by omega⟩)
      rw [z] at c3
      omega
    · have e := y.mp (by omega)
      refine e (Int32.toInt_inj.mp ?_)
      omega
    · refine ih (l4 + 1) (i + 1) (by omega) (by omega) (fiP_succ.mpr ⟨s, fun z => by exfalso; omega, fun z => ?_⟩)
      exact absurd (Int32.toInt_inj.mp c3.symm) z
    · have e : vp_nar .boolean (hi h 272 i) ≠ 0 := fun z => c3 (by rw [z])
      have := y.mpr e
      omega
theorem df_ref {n : Nat} {x1 x2 x3 : Int32} {c o : Nat} (hb : x1.toInt = (c : Int) + 2) (ho : x2.toInt = (o : Int)) (hk : x3.toInt = (k : Int)) (k20 : k ≤ 20) (w : ∀ i, i < k → 0 ≤ (hi h 271 i).toInt) : Pc (F_X12_doesFit n h x1 x2 x3) (fun q => q.2 = h ∧ (q.1.toInt ≠ 0 ↔ fiP h k c o)) := by
  unfold F_X12_doesFit
  exact df_loop hb ho hk k20 w n 0 0 lit_0 (Nat.zero_le k) (fun i hi' => absurd hi' (Nat.not_lt_zero i))
/-- the reference: how many fit -/
theorem fc_loop {l1 l2 G : Int32} (hk : l1.toInt = (k : Int)) (k20 : k ≤ 20) (w : ∀ i, i < k → 0 ≤ (hi h 271 i).toInt) (g : ∀ c, c < 5 → ∀ o, o < c + 2 → (bt G (pr5 c + o) = true ↔ fiP h k c o ∧ (l2.toInt < 0 ∨ l2.toInt % ((c : Int) + 2) = (o : Int)))) : ∀ n : Nat, (∀ (l3 l4 l5 : Int32) (c : Nat), l4.toInt = (c : Int) + 2 → c ≤ 5 → l3.toInt = (cntB (bt G) (pr5 c) : Nat) → Pc (W_X12_fitting n 5 h l1 l2 l3 l4 l5) (fun q => q.2 = h ∧ q.1.toInt = (cntB (bt G) 20 : Nat))) ∧ (∀ (l3 l4 l5 : Int32) (c o : Nat), l4.toInt = (c : Int) + 2 → c < 5 → l5.toInt = (o : Int) → o ≤ c + 2 → l3.toInt = (cntB (bt G) (pr5 c + o) : Nat) → Pc (W_X12_fitting n 15 h l1 l2 l3 l4 l5) (fun q => q.2 = h ∧ q.1.toInt = (cntB (bt G) 20 : Nat))) := by
  have f6 := lit_6
  have f0 := lit_0
  have f1 := lit_1
  intro n
  induction n with
  | zero => exact ⟨fun l3 l4 l5 c a b d => Pc.no, fun l3 l4 l5 c o a b d e f => Pc.no⟩
  | succ n ih =>
    obtain ⟨ih5, ih15⟩ := ih
    refine ⟨fun l3 l4 l5 c a b d => ?_, fun l3 l4 l5 c o a b d e f => ?_⟩
    · rw [u_X12_fitting]
      refine Pc.pos rfl (Pc.lt (fun c1 => Pc.ret ⟨rfl, ?_⟩) (fun c1 => ?_))
      · have : c = 5 := by omega
        rw [this] at d
        exact d
      · exact ih15 l3 l4 0 c 0 a (by omega) f0 (by omega) d
    · rw [u_X12_fitting]
      refine Pc.neg (by decide) (Pc.pos rfl ?_)
      have a4 := adT l4 1 (by omega) (by omega)
      have a5 := adT l5 1 (by omega) (by omega)
      have p3 : pr5 (c + 1) = pr5 c + (c + 2) := rfl
      have p4 := pr5_le (c + 1) (by omega)
      have cl := cntB_le (bt G) (pr5 c + o)
      have a3 := adT l3 1 (by omega) (by omega)
      have cs : cntB (bt G) (pr5 c + (o + 1)) = cntB (bt G) (pr5 c + o) + (bt G (pr5 c + o)).toNat := rfl
      refine Pc.le (fun c1 => ?_) (fun c1 => ?_)
      · have : o = c + 2 := by omega
        rw [this, ← p3] at f
        exact ih5 l3 (l4 + 1) 0 (c + 1) (by omega) (by omega) f
      have ol : o < c + 2 := by omega
      have go := g c b o ol
      -- it fits, or it doesn't
      have yes (q : Int32 × Hp) (y1 : q.2 = h) (y2 : fiP h k c o) (y3 : l2.toInt < 0 ∨ l2.toInt % ((c : Int) + 2) = (o : Int)) : Pc (W_X12_fitting n 15 q.2 l1 l2 (l3 + 1) l4 (l5 + 1)) (fun q => q.2 = h ∧ q.1.toInt = (cntB (bt G) 20 : Nat)) := by
        rw [y1]
        have t := go.mpr ⟨y2, y3⟩
        rw [t] at cs
        have cs' : cntB (bt G) (pr5 c + (o + 1)) = cntB (bt G) (pr5 c + o) + 1 := cs
        exact ih15 (l3 + 1) l4 (l5 + 1) c (o + 1) a b (by omega) (by omega) (by omega)
      have non (q : Hp) (y1 : q = h) (y2 : ¬ (fiP h k c o ∧ (l2.toInt < 0 ∨ l2.toInt % ((c : Int) + 2) = (o : Int)))) : Pc (W_X12_fitting n 15 q l1 l2 l3 l4 (l5 + 1)) (fun q => q.2 = h ∧ q.1.toInt = (cntB (bt G) 20 : Nat)) := by
        rw [y1]
        have t : bt G (pr5 c + o) = false := Bool.eq_false_iff.mpr (fun z => y2 (go.mp z))
        rw [t] at cs
        have cs' : cntB (bt G) (pr5 c + (o + 1)) = cntB (bt G) (pr5 c + o) := cs
        exact ih15 l3 l4 (l5 + 1) c (o + 1) a b (by omega) (by omega) (by omega)
      refine Pc.lt (fun c2 => ?_) (fun c2 => Pc.ite (fun _ => Pc.no) (fun _ => ?_))
      · refine Pc.bind (df_ref a d hk k20 w) (fun q4 hq => Pc.eq (fun c3 => ?_) (fun c3 => ?_))
        · exact non q4.2 hq.1 (fun z => (hq.2.mpr z.1) (by omega))
        · exact yes q4 hq.1 (hq.2.mp (by omega)) (Or.inl (by omega))
      · have m0 := rmT l2 l4 ((c : Int) + 2) a (by omega) (by omega)
        refine Pc.eq (fun c3 => ?_) (fun c3 => ?_)
        · refine Pc.bind (df_ref a d hk k20 w) (fun q4 hq => Pc.eq (fun c4 => ?_) (fun c4 => ?_))
          · exact non q4.2 hq.1 (fun z => (hq.2.mpr z.1) (by omega))
          · exact yes q4 hq.1 (hq.2.mp (by omega)) (Or.inr (by omega))
        · exact non h rfl (fun z => by rcases z.2 with y | y <;> omega)
theorem fc_ref {n : Nat} {x1 x2 G : Int32} (hk : x1.toInt = (k : Int)) (k20 : k ≤ 20) (w : ∀ i, i < k → 0 ≤ (hi h 271 i).toInt) (g : ∀ c, c < 5 → ∀ o, o < c + 2 → (bt G (pr5 c + o) = true ↔ fiP h k c o ∧ (x2.toInt < 0 ∨ x2.toInt % ((c : Int) + 2) = (o : Int)))) : Pc (F_X12_fitting n h x1 x2) (fun q => q.2 = h ∧ q.1.toInt = (cntB (bt G) 20 : Nat)) := by
  have f2 := lit_2
  unfold F_X12_fitting
  exact (fc_loop hk k20 w g n).1 0 2 0 0 (by omega) (by decide) lit_0
/-- the first that fits -/
def ffP (F : Int32) (v : Int32) : Prop := ((∀ m, m < 20 → bt F m = false) ∧ v.toInt = -2) ∨ ∃ c o : Nat, c < 5 ∧ o < c + 2 ∧ bt F (pr5 c + o) = true ∧ (∀ m, m < pr5 c + o → bt F m = false) ∧ v.toInt = 10 * ((c : Int) + 2) + (o : Int)
theorem ff_loop {l1 F : Int32} (hk : l1.toInt = (k : Int)) (k20 : k ≤ 20) (w : ∀ i, i < k → 0 ≤ (hi h 271 i).toInt) (g : fiB F h k) : ∀ n : Nat, (∀ (l2 l3 : Int32) (c : Nat), l2.toInt = (c : Int) + 2 → c ≤ 5 → (∀ m, m < pr5 c → bt F m = false) → Pc (W_X12_firstFit n 2 h l1 l2 l3) (fun q => q.2 = h ∧ ffP F q.1)) ∧ (∀ (l2 l3 : Int32) (c o : Nat), l2.toInt = (c : Int) + 2 → c < 5 → l3.toInt = (o : Int) → o ≤ c + 2 → (∀ m, m < pr5 c + o → bt F m = false) → Pc (W_X12_firstFit n 10 h l1 l2 l3) (fun q => q.2 = h ∧ ffP F q.1)) := by
  have f6 := lit_6
  have f0 := lit_0
  have f1 := lit_1
  have f10 := lit_10
  intro n
  induction n with
  | zero => exact ⟨fun l2 l3 c a b d => Pc.no, fun l2 l3 c o a b d e f => Pc.no⟩
  | succ n ih =>
    obtain ⟨ih2, ih10⟩ := ih
    refine ⟨fun l2 l3 c a b d => ?_, fun l2 l3 c o a b d e f => ?_⟩
    · rw [u_X12_firstFit]
      refine Pc.pos rfl (Pc.lt (fun c1 => Pc.ret ⟨rfl, Or.inl ⟨?_, ?_⟩⟩) (fun c1 => ?_))
      · have : c = 5 := by omega
        rw [this] at d
        exact d
      · show (-2 : Int32).toInt = -2
        decide
      · exact ih10 l2 0 c 0 a (by omega) f0 (by omega) d
    · rw [u_X12_firstFit]
      refine Pc.neg (by decide) (Pc.pos rfl ?_)
      have a2 := adT l2 1 (by omega) (by omega)
      have a3 := adT l3 1 (by omega) (by omega)
      have p3 : pr5 (c + 1) = pr5 c + (c + 2) := rfl
      refine Pc.le (fun c1 => ?_) (fun c1 => ?_)
      · have : o = c + 2 := by omega
        rw [this, ← p3] at f
        exact ih2 (l2 + 1) 0 (c + 1) (by omega) (by omega) f
      have ol : o < c + 2 := by omega
      have go := g.1 c b o ol
      refine Pc.bind (df_ref a d hk k20 w) (fun q3 hq => Pc.eq (fun c3 => ?_) (fun c3 => ?_))
      · rw [hq.1]
        refine ih10 l2 (l3 + 1) c (o + 1) a b (by omega) (by omega) (fun m hm => ?_)
        by_cases z : m < pr5 c + o
        · exact f m z
        · rw [show m = pr5 c + o by omega]
          exact Bool.eq_false_iff.mpr (fun y => (hq.2.mpr (go.mp y)) (by omega))
      · refine Pc.ret ⟨hq.1, Or.inr ⟨c, o, b, ol, go.mpr (hq.2.mp (by omega)), f, ?_⟩⟩
        show (10 * l2 + l3 : Int32).toInt = _
        have m1 := mlT 10 l2 10 f10 (by omega) (by omega)
        have m2 := adT (10 * l2) l3 (by omega) (by omega)
        omega
theorem ff_ref {n : Nat} {x1 F : Int32} (hk : x1.toInt = (k : Int)) (k20 : k ≤ 20) (w : ∀ i, i < k → 0 ≤ (hi h 271 i).toInt) (g : fiB F h k) : Pc (F_X12_firstFit n h x1) (fun q => q.2 = h ∧ ffP F q.1) := by
  have f2 := lit_2
  unfold F_X12_firstFit
  exact (ff_loop hk k20 w g n).1 2 0 0 (by omega) (by decide) (fun m hm => absurd hm (Nat.not_lt_zero m))
/-- the class: the first of a set -/
theorem fr_loop {l0 l2 : Int32} {j : Nat} (hj : l2.toInt = (j : Int)) (j32 : j ≤ 32) : ∀ (n : Nat) (l1 l3 : Int32) (c : Nat), l3.toInt = (c : Int) + 2 → c ≤ 5 → l1.toInt = (pr5 c : Nat) → pr5 c ≤ j → Pc (W_X2_firstTune n 9 h l0 l1 l2 l3) (fun q => q.2 = h ∧ (20 ≤ j → q.1.toInt = -2) ∧ ∀ c o : Nat, c < 5 → o < c + 2 → j = pr5 c + o → q.1.toInt = 10 * ((c : Int) + 2) + (o : Int)) := by
  have f6 := lit_6
  have f1 := lit_1
  have f10 := lit_10
  intro n
  induction n with
  | zero => intro l1 l3 c a b d e; exact Pc.no
  | succ n ih =>
    intro l1 l3 c a b d e
    have p1 := pr5_le c (by omega)
    have p20 : pr5 5 = 20 := rfl
    have a2 := adT l1 l3 (by omega) (by omega)
    have a3 := adT l3 1 (by omega) (by omega)
    have p3 : pr5 (c + 1) = pr5 c + (c + 2) := rfl
    rw [u_X2_firstTune]
    refine Pc.pos rfl (Pc.lt (fun c1 => Pc.ret ⟨rfl, fun _ => ?_, fun c' o h1 h2 h3 => ?_⟩) (fun c1 => Pc.le (fun c2 => ?_) (fun c2 => Pc.ret ⟨rfl, fun z => ?_, fun c' o h1 h2 h3 => ?_⟩)))
    · show (-2 : Int32).toInt = -2
      decide
    · have z : c = 5 := by omega
      have l := pr5_lt h1 h2
      rw [z] at e
      exfalso; omega
    · exact ih (l1 + l3) (l3 + 1) (c + 1) (by omega) (by omega) (by omega) (by omega)
    · have p2 := pr5_le (c + 1) (by omega)
      exfalso; omega
    · have z : c' = c := by
        rcases Nat.lt_trichotomy c' c with y | y | y
        · have l := pr5_lt y h2
          exfalso; omega
        · exact y
        · have l := pr5_mono (a := c + 1) c' y
          exfalso; omega
      rw [z] at h3 ⊢
      show (10 * l3 + l2 - l1 : Int32).toInt = _
      have m1 := mlT 10 l3 10 f10 (by omega) (by omega)
      have m2 := adT (10 * l3) l2 (by omega) (by omega)
      have m3 := sbT (10 * l3 + l2) l1 (by omega) (by omega)
      omega
theorem fr_class {n : Nat} {F : Int32} (g : ∀ j, 20 ≤ j → bt F j = false) : Pc (F_X2_firstTune n h F) (fun q => q.2 = h ∧ ∀ v, ffP F v → q.1 = v) := by
  have f2 := lit_2
  unfold F_X2_firstTune
  refine Pc.bind pc_lowest (fun q3 hq => ?_)
  obtain ⟨h1, h2, h3⟩ := hq
  rw [h1]
  by_cases z : F = 0
  · refine (fr_loop (j := 32) (by have := h2 z; omega) (by decide) n 0 2 0 (by omega) (by decide) lit_0 (Nat.zero_le _)).mono (fun q hq => ⟨hq.1, fun v hv => Int32.toInt_inj.mp ?_⟩)
    rcases hv with ⟨v1, v2⟩ | ⟨c, o, v1, v2, v3, v4, v5⟩
    · rw [v2]; exact hq.2.1 (by decide)
    · rw [z, bt_zero] at v3
      exact Bool.noConfusion v3
  · have ex : ∃ i, i < 20 ∧ bt F i = true ∧ ∀ m, m < i → bt F m = false := by
      obtain ⟨i, i1, i2⟩ := bt_ne z
      have key : ∀ d i, i < d → bt F i = true → ∃ i, bt F i = true ∧ ∀ m, m < i → bt F m = false := by
        intro d
        induction d with
        | zero => intro i hi'; exact absurd hi' (Nat.not_lt_zero i)
        | succ d ih =>
          intro i hi' ht
          by_cases y : ∃ m, m < i ∧ bt F m = true
          · obtain ⟨m, y1, y2⟩ := y
            exact ih m (by omega) y2
          · exact ⟨i, ht, fun m hm => Bool.eq_false_iff.mpr (fun t => y ⟨m, hm, t⟩)⟩
      obtain ⟨i', t1, t2⟩ := key 32 i i1 i2
      refine ⟨i', ?_, t1, t2⟩
      by_cases y : i' < 20
      · exact y
      · rw [g i' (by omega)] at t1
        exact Bool.noConfusion t1
    obtain ⟨j, j1, j2, j3⟩ := ex
    have e := h3 j (by omega) j2 j3
    refine (fr_loop (j := j) e (by omega) n 0 2 0 (by omega) (by decide) lit_0 (Nat.zero_le _)).mono (fun q hq => ⟨hq.1, fun v hv => Int32.toInt_inj.mp ?_⟩)
    rcases hv with ⟨v1, v2⟩ | ⟨c, o, v1, v2, v3, v4, v5⟩
    · rw [v1 j j1] at j2
      exact Bool.noConfusion j2
    · have s : j = pr5 c + o := by
        rcases Nat.lt_trichotomy j (pr5 c + o) with y | y | y
        · rw [v4 j y] at j2
          exact Bool.noConfusion j2
        · exact y
        · rw [j3 _ y] at v3
          exact Bool.noConfusion v3
      rw [v5]
      exact hq.2.2 c o v1 v2 s
end FI
end
section
/-! FITS, LISTEN: both -/
section FL
variable {h h0 : Hp} {n : Nat} {x1 x2 : Int32}
theorem ez_knows : Pc (F_X2_knows n h x1) (fun q => q.2 = h ∧ (q.1.toInt ≠ 0 ↔ 0 ≤ x1.toInt ∧ x1.toInt ≤ (hi h 201 2).toInt)) := by
  have f0 := lit_0
  have f1 := lit_1
  unfold F_X2_knows
  refine Pc.lt (fun c1 => Pc.ret ⟨rfl, ?_⟩) (fun c1 => Pc.lt (fun c2 => Pc.ret ⟨rfl, ?_⟩) (fun c2 => Pc.ret ⟨rfl, ?_⟩))
  · show (0 : Int32).toInt ≠ 0 ↔ _
    omega
  · show (0 : Int32).toInt ≠ 0 ↔ _
    omega
  · show (1 : Int32).toInt ≠ 0 ↔ _
    omega
theorem ez_nought : Pc (F_X11_isNoughtOrOne n h x1) (fun q => q.2 = h ∧ (q.1.toInt ≠ 0 ↔ 0 ≤ x1.toInt ∧ x1.toInt ≤ 1)) := by
  have f0 := lit_0
  have f1 := lit_1
  unfold F_X11_isNoughtOrOne
  refine Pc.eq (fun c1 => Pc.ret ⟨rfl, ?_⟩) (fun c1 => Pc.eq (fun c2 => Pc.ret ⟨rfl, ?_⟩) (fun c2 => Pc.ret ⟨rfl, ?_⟩))
  · show (1 : Int32).toInt ≠ 0 ↔ _
    omega
  · show (1 : Int32).toInt ≠ 0 ↔ _
    omega
  · show (0 : Int32).toInt ≠ 0 ↔ _
    omega
/-- what the class answers: -1, how many, the first -/
def fsP (h : Hp) (x1 x2 v : Int32) : Prop := (¬ ((0 ≤ x1.toInt ∧ x1.toInt ≤ (hi h 201 2).toInt) ∧ 0 ≤ x2.toInt ∧ x2.toInt ≤ 1) ∧ v = -1) ∨ (((0 ≤ x1.toInt ∧ x1.toInt ≤ (hi h 201 2).toInt) ∧ 0 ≤ x2.toInt ∧ x2.toInt ≤ 1) ∧ ∃ F : Int32, fiB F h x1.toInt.toNat ∧ (x2.toInt = 0 → v.toInt = (cntB (bt F) 20 : Nat)) ∧ (x2.toInt ≠ 0 → ∀ u, ffP F u → v = u))
theorem fs_class (w : ezTold h) : Pc (F_X11_fits n h x1 x2) (fun q => q.2 = h ∧ fsP h x1 x2 q.1) := by
  have f0 := lit_0
  unfold F_X11_fits
  refine Pc.bind ez_knows (fun q1 hq1 => ?_)
  obtain ⟨s1, s2⟩ := hq1
  rw [s1]
  refine Pc.eq (fun c1 => Pc.ret ⟨rfl, Or.inl ⟨by omega, rfl⟩⟩) (fun c1 => ?_)
  refine Pc.bind ez_nought (fun q4 hq4 => ?_)
  obtain ⟨t1, t2⟩ := hq4
  rw [t1]
  refine Pc.eq (fun c2 => Pc.ret ⟨rfl, Or.inl ⟨by omega, rfl⟩⟩) (fun c2 => ?_)
  refine Pc.bind (fi_class (k := x1.toInt.toNat) (by omega) (by omega) w) (fun q7 hq7 => ?_)
  obtain ⟨u1, u2⟩ := hq7
  rw [u1]
  refine Pc.eq (fun c3 => ?_) (fun c3 => ?_)
  · refine Pc.bind pc_bits (fun q12 hq => Pc.ret ⟨hq.1, Or.inr ⟨⟨⟨by omega, by omega⟩, by omega, by omega⟩, q7.1, u2, fun _ => ?_, fun z => absurd (c3.trans f0) z⟩⟩)
    show q12.1.toInt = _
    rw [hq.2, cnt20 u2.2]
  · refine Pc.bind (fr_class u2.2) (fun q10 hq => Pc.ret ⟨hq.1, Or.inr ⟨⟨⟨by omega, by omega⟩, by omega, by omega⟩, q7.1, u2, fun z => absurd (z.trans f0.symm) c3, fun _ u hu => ?_⟩⟩)
    exact hq.2 u hu
theorem ft_ie {q1 q2 : Int32 × Hp} {n1 n2 : Nat} (w : Ie h0) (e1 : F_X11_fits n1 h0 x1 x2 = some q1) (e2 : F_X12_fits n2 q1.2 x1 x2 = some q2) : q1.1 = q2.1 ∧ Ie q2.2 := by
  have f0 := lit_0
  have f1 := lit_1
  obtain ⟨r1, r2⟩ := fs_class w.2 q1 e1
  rw [r1] at e2
  obtain ⟨w1, w2, w3⟩ := w.2
  have tm : ∀ i, i < x1.toInt.toNat → x1.toInt ≤ (hi h0 201 2).toInt → 0 ≤ (hi h0 271 i).toInt := fun i hi' l => (w3 i (by omega)).2.2.1
  have e5 : (hi h0 226 65).toInt = (hi h0 201 2).toInt := by rw [w1]
  have key : Pc (F_X12_fits n2 h0 x1 x2) (fun q => q.2 = h0 ∧ q1.1 = q.1) := by
    unfold F_X12_fits
    refine Pc.bind ez_in (fun q3 hq3 => ?_)
    obtain ⟨s1, s2⟩ := hq3
    rw [s1]
    refine Pc.eq (fun c1 => Pc.ret ⟨rfl, ?_⟩) (fun c1 => ?_)
    · rcases r2 with ⟨_, b⟩ | ⟨a, _⟩
      · exact b
      · exfalso; omega
    refine Pc.bind ez_in (fun q4 hq4 => ?_)
    obtain ⟨t1, t2⟩ := hq4
    rw [t1]
    refine Pc.eq (fun c2 => Pc.ret ⟨rfl, ?_⟩) (fun c2 => ?_)
    · rcases r2 with ⟨_, b⟩ | ⟨a, _⟩
      · exact b
      · exfalso; omega
    rcases r2 with ⟨a, _⟩ | ⟨a, F, b1, b2, b3⟩
    · exfalso
      refine a ⟨⟨?_, ?_⟩, ?_, ?_⟩ <;> omega
    refine Pc.eq (fun c3 => ?_) (fun c3 => ?_)
    · have m1 : (-1 : Int32).toInt = -1 := by decide
      refine Pc.bind (fc_ref (k := x1.toInt.toNat) (G := F) (by omega) (by omega) (fun i hi' => tm i hi' (by omega)) (fun c hc o ho => ?_)) (fun q10 hq => Pc.ret ⟨hq.1, Int32.toInt_inj.mp ?_⟩)
      · rw [b1.1 c hc o ho]
        exact ⟨fun y => ⟨y, Or.inl (by omega)⟩, fun y => y.1⟩
      · show q1.1.toInt = q10.1.toInt
        rw [hq.2, b2 (by omega)]
    · refine Pc.bind (ff_ref (k := x1.toInt.toNat) (by omega) (by omega) (fun i hi' => tm i hi' (by omega)) b1) (fun q8 hq => Pc.ret ⟨hq.1, ?_⟩)
      exact b3 (by omega) q8.1 hq.2
  obtain ⟨k1, k2⟩ := key q2 e2
  refine ⟨k2, ?_⟩
  rw [k1]
  exact w
/-- both go through the times -/
theorem ls_loop {F T x1 : Int32} {k : Nat} (hk : x1.toInt = (k : Int)) (k20 : k ≤ 20) (tm : ∀ i, i < k → 0 ≤ (hi h 271 i).toInt) (g : fiB F h k) (hT : T.toInt = (cntB (bt F) 20 : Nat)) : ∀ (n : Nat) (l1 l2 l3 : Int32), 0 ≤ l3.toInt → l3.toInt ≤ 60 → l2.toInt ≤ 100 → Pc (W_X2_bestTime n 12 h F l1 l2 l3) (fun qc => qc.2 = h ∧ ∀ (m : Nat) (l4 : Int32), (l1.toInt < 0 ∧ l2.toInt = T.toInt + 1) ∨ (0 ≤ l1.toInt ∧ l2 = l4) → Pc (W_X12_listen m 30 h x1 T l1 l4 l3) (fun qr => qr.2 = h ∧ qc.1 = qr.1)) := by
  have f0 := lit_0
  have f1 := lit_1
  have f60 := lit_60
  have c20 := cntB_le (bt F) 20
  intro n
  induction n with
  | zero => intro l1 l2 l3 a b d; exact Pc.no
  | succ n ih =>
    intro l1 l2 l3 a b d
    rw [u_X2_bestTime]
    refine Pc.pos rfl (Pc.le (fun c1 => Pc.ret ⟨rfl, fun m l4 _ => ?_⟩) (fun c1 => Pc.ite (fun c2 => Pc.ret ⟨rfl, fun m l4 _ => ?_⟩) (fun c2 => ?_)))
    · cases m with
      | zero => exact Pc.no
      | succ m =>
        rw [u_X12_listen]
        exact Pc.pos rfl (Pc.le (fun _ => Pc.ret ⟨rfl, rfl⟩) (fun c3 => by exfalso; omega))
    · cases m with
      | zero => exact Pc.no
      | succ m =>
        rw [u_X12_listen]
        have z : cntB (bt F) 20 = 0 := cntB_no 20 (fun i _ => by rw [c2]; exact bt_zero i)
        exact Pc.pos rfl (Pc.le (fun _ => Pc.ret ⟨rfl, rfl⟩) (fun c3 => Pc.le (fun _ => Pc.ret ⟨rfl, rfl⟩) (fun c4 => by exfalso; omega)))
    have Tp : 1 ≤ cntB (bt F) 20 := by
      obtain ⟨i, i1, i2⟩ := bt_ne c2
      by_cases y : i < 20
      · exact cntB_pos i2 20 y
      · rw [g.2 i (by omega)] at i2
        exact Bool.noConfusion i2
    refine Pc.bind (so_at a) (fun q3 hq3 => ?_)
    obtain ⟨s1, s2, s3⟩ := hq3
    rw [s1]
    refine Pc.bind pc_bits (fun q5 hq5 => ?_)
    obtain ⟨t1, t2⟩ := hq5
    rw [t1]
    refine Pc.bind pc_bits (fun q7 hq7 => ?_)
    obtain ⟨u1, u2⟩ := hq7
    rw [u1]
    have sp := cntB_two F q3.1 32 (Nat.le_refl 32)
    have e32 := cnt20 g.2
    have eG : cntB (bt (F &&& q3.1)) 32 = cntB (bt (F &&& q3.1)) 20 := cnt20 (fun j hj => by rw [bt_and, g.2 j hj, Bool.false_and])
    have a3 := adT l3 1 (by omega) (by omega)
    -- what the reference counts at this time
    have rf (m : Nat) : Pc (F_X12_fitting m h x1 l3) (fun q => q.2 = h ∧ q.1.toInt = q5.1.toInt) := by
      refine (fc_ref (k := k) (G := F &&& q3.1) hk k20 tm (fun c hc o ho => ?_)).mono (fun q hq => ⟨hq.1, ?_⟩)
      · rw [bt_and, Bool.and_eq_true, g.1 c hc o ho, s2 c hc o ho]
        exact ⟨fun y => ⟨y.1, Or.inr y.2⟩, fun y => ⟨y.1, by rcases y.2 with z | z; exact absurd z (by omega); exact z⟩⟩
      · rw [hq.2, t2, eG]
    -- the greater of both
    generalize eM : (if q5.1 < q7.1 then q7.1 else q5.1 : Int32) = M
    have hM : (q5.1.toInt < q7.1.toInt ∧ M = q7.1) ∨ (q7.1.toInt ≤ q5.1.toInt ∧ M = q5.1) := by
      by_cases y : q5.1 < q7.1
      · rw [if_pos y] at eM
        exact Or.inl ⟨Int32.lt_iff_toInt_lt.mp y, eM.symm⟩
      · rw [if_neg y] at eM
        refine Or.inr ⟨?_, eM.symm⟩
        have : ¬ q5.1.toInt < q7.1.toInt := fun z => y (Int32.lt_iff_toInt_lt.mpr z)
        omega
    have hMi : M.toInt = q5.1.toInt ∨ M.toInt = q7.1.toInt := by
      rcases hM with ⟨_, y⟩ | ⟨_, y⟩
      · rw [y]; exact Or.inr rfl
      · rw [y]; exact Or.inl rfl
    have hMg : q5.1.toInt ≤ M.toInt ∧ q7.1.toInt ≤ M.toInt := by
      rcases hM with ⟨z, y⟩ | ⟨z, y⟩
      · rw [y]; omega
      · rw [y]; omega
    refine Pc.le (fun c3 => ?_) (fun c3 => ?_)
    · refine (ih l1 l2 (l3 + 1) (by omega) (by omega) d).mono (fun qc hqc => ⟨hqc.1, fun m l4 rel => ?_⟩)
      cases m with
      | zero => exact Pc.no
      | succ m =>
        have go := hqc.2 m l4 rel
        have r0 : 0 ≤ l1.toInt ∧ l2 = l4 := by
          rcases rel with y | y
          · exfalso; omega
          · exact y
        have r1 : l2.toInt = l4.toInt := by rw [r0.2]
        rw [u_X12_listen]
        refine Pc.pos rfl (Pc.le (fun _ => by exfalso; omega) (fun _ => Pc.le (fun _ => by exfalso; omega) (fun _ => ?_)))
        refine Pc.bind (rf m) (fun q9 hq9 => ?_)
        obtain ⟨v1, v2⟩ := hq9
        rw [v1]
        have sb := sbT T q9.1 (by omega) (by omega)
        refine Pc.le (fun c5 => Pc.lt (fun c6 => by exfalso; omega) (fun c6 => Pc.lt (fun c7 => by exfalso; omega) (fun _ => go))) (fun c5 => Pc.lt (fun c6 => by exfalso; omega) (fun c6 => Pc.lt (fun c7 => by exfalso; omega) (fun _ => go)))
    · refine (ih l3 M (l3 + 1) (by omega) (by omega) (by omega)).mono (fun qc hqc => ⟨hqc.1, fun m l4 rel => ?_⟩)
      cases m with
      | zero => exact Pc.no
      | succ m =>
        have r1 : 0 ≤ l1.toInt → l2.toInt = l4.toInt := by
          intro z
          rcases rel with y | y
          · exfalso; omega
          · rw [y.2]
        rw [u_X12_listen]
        refine Pc.pos rfl (Pc.le (fun _ => by exfalso; omega) (fun _ => Pc.le (fun _ => by exfalso; omega) (fun _ => ?_)))
        refine Pc.bind (rf m) (fun q9 hq9 => ?_)
        obtain ⟨v1, v2⟩ := hq9
        rw [v1]
        have sb := sbT T q9.1 (by omega) (by omega)
        refine Pc.le (fun c5 => ?_) (fun c5 => ?_)
        · have eM2 : M = T - q9.1 := Int32.toInt_inj.mp (by omega)
          have go := hqc.2 m (T - q9.1) (Or.inr ⟨a, eM2⟩)
          exact Pc.lt (fun _ => go) (fun c6 => Pc.lt (fun _ => go) (fun c7 => by have := r1 (by omega); exfalso; omega))
        · have eM2 : M = q9.1 := Int32.toInt_inj.mp (by omega)
          have go := hqc.2 m q9.1 (Or.inr ⟨a, eM2⟩)
          exact Pc.lt (fun _ => go) (fun c6 => Pc.lt (fun _ => go) (fun c7 => by have := r1 (by omega); exfalso; omega))
theorem ls_ie {q1 q2 : Int32 × Hp} {n1 n2 : Nat} (w : Ie h0) (e1 : F_X11_listen n1 h0 x1 = some q1) (e2 : F_X12_listen n2 q1.2 x1 = some q2) : q1.1 = q2.1 ∧ Ie q2.2 := by
  have f0 := lit_0
  have f1 := lit_1
  obtain ⟨w1, w2, w3⟩ := w.2
  have tm : ∀ i, i < x1.toInt.toNat → x1.toInt ≤ (hi h0 201 2).toInt → 0 ≤ (hi h0 271 i).toInt := fun i hi' l => (w3 i (by omega)).2.2.1
  have e5 : (hi h0 226 65).toInt = (hi h0 201 2).toInt := by rw [w1]
  have m1 : (-1 : Int32).toInt = -1 := by decide
  have m2 : (-2 : Int32).toInt = -2 := by decide
  have key : Pc (F_X11_listen n1 h0 x1) (fun qc => qc.2 = h0 ∧ ∀ m, Pc (F_X12_listen m h0 x1) (fun qr => qr.2 = h0 ∧ qc.1 = qr.1)) := by
    unfold F_X11_listen
    refine Pc.bind ez_knows (fun q3 hq3 => ?_)
    obtain ⟨s1, s2⟩ := hq3
    rw [s1]
    refine Pc.eq (fun c1 => Pc.ret ⟨rfl, fun m => ?_⟩) (fun c1 => ?_)
    · unfold F_X12_listen
      refine Pc.bind ez_in (fun q4 hq4 => ?_)
      obtain ⟨t1, t2⟩ := hq4
      rw [t1]
      exact Pc.eq (fun _ => Pc.ret ⟨rfl, rfl⟩) (fun c2 => by exfalso; omega)
    refine Pc.bind (fi_class (k := x1.toInt.toNat) (by omega) (by omega) w.2) (fun q4 hq4 => ?_)
    obtain ⟨u1, u2⟩ := hq4
    rw [u1]
    unfold F_X2_bestTime
    have c20 := cntB_le (bt q4.1) 20
    have hl : Pc ((F_J6_bitCount_0f7a4 n1 h0 q4.1).bind (fun q10 => W_X2_bestTime n1 12 q10.2 q4.1 (-2) (q10.1 + 1) 0)) (fun qc => qc.2 = h0 ∧ ∀ m, Pc (F_X12_listen m h0 x1) (fun qr => qr.2 = h0 ∧ qc.1 = qr.1)) := by
      refine Pc.bind pc_bits (fun q10 hq10 => ?_)
      obtain ⟨v1, v2⟩ := hq10
      rw [v1]
      have e32 := cnt20 u2.2
      have a1 := adT q10.1 1 (by omega) (by omega)
      have hT : q10.1.toInt = (cntB (bt q4.1) 20 : Nat) := by rw [v2, e32]
      refine (ls_loop (k := x1.toInt.toNat) (T := q10.1) (x1 := x1) (by omega) (by omega) (fun i hi' => tm i hi' (by omega)) u2 hT n1 (-2) (q10.1 + 1) 0 (by omega) (by omega) (by omega)).mono (fun qc hqc => ⟨hqc.1, fun m => ?_⟩)
      unfold F_X12_listen
      refine Pc.bind ez_in (fun q5 hq5 => ?_)
      obtain ⟨t1, t2⟩ := hq5
      rw [t1]
      refine Pc.eq (fun c2 => by exfalso; omega) (fun c2 => ?_)
      refine Pc.bind (fc_ref (k := x1.toInt.toNat) (G := q4.1) (by omega) (by omega) (fun i hi' => tm i hi' (by omega)) (fun c hc o ho => ?_)) (fun q13 hq13 => ?_)
      · rw [u2.1 c hc o ho]
        exact ⟨fun y => ⟨y, Or.inl (by omega)⟩, fun y => y.1⟩
      · have eT : q13.1 = q10.1 := Int32.toInt_inj.mp (by rw [hq13.2, hT])
        rw [hq13.1, eT]
        exact hqc.2 m 0 (Or.inl ⟨by omega, by omega⟩)
    exact Pc.bind hl (fun q6 hq6 => Pc.ret hq6)
  obtain ⟨r1, r2⟩ := key q1 e1
  rw [r1] at e2
  obtain ⟨k1, k2⟩ := r2 n2 q2 e2
  refine ⟨k2, ?_⟩
  rw [k1]
  exact w
end FL
end
section
/-! LAWS, as orders to a pile -/
/-- one order: a number, -1 - v: the v-th VAR, -10 .. -13: + - * / -/
def opV (v : Nat → Int32) (c : Int32) (st : List Int32) : Option (List Int32) :=
  if -9 ≤ c.toInt then some ((if 0 ≤ c.toInt then c else v (-1 - c.toInt).toNat) :: st) else
  match st with
  | b :: a :: r => if c.toInt = -13 then (if b = 0 then none else some (a / b :: r)) else some ((if c.toInt = -12 then a * b else if c.toInt = -11 then a - b else a + b) :: r)
  | _ => none
def rnV (v : Nat → Int32) : List Int32 → List Int32 → Option (List Int32)
  | [], st => some st
  | c :: r, st => (opV v c st).bind (rnV v r)
/-- how many lie on the pile behind these orders; m at most -/
def dpL (m : Nat) : List Int32 → Nat → Option Nat
  | [], d => some d
  | c :: r, d => if -13 ≤ c.toInt then (if -9 ≤ c.toInt then (if d < m then dpL m r (d + 1) else none) else if 2 ≤ d then dpL m r (d - 1) else none) else none
/-- orders laid down from p on -/
def odA (g : Nat → Int32) : Nat → List Int32 → Prop
  | _, [] => True
  | p, c :: r => g p = c ∧ odA g (p + 1) r
/-- a pile laid down -/
def skR (g : Nat → Int32) : List Int32 → Prop
  | [] => True
  | x :: r => g r.length = x ∧ skR g r
theorem skR.cg {g g' : Nat → Int32} : ∀ {st : List Int32}, skR g st → (∀ k, k < st.length → g' k = g k) → skR g' st := by
  intro st
  induction st with
  | nil => intro _ _; trivial
  | cons x r ih =>
    intro h e
    exact ⟨(e r.length (by simp)).trans h.1, ih h.2 (fun k hk => e k (by simp; omega))⟩
theorem odA.cg {g g' : Nat → Int32} : ∀ {C : List Int32} {p : Nat}, odA g p C → (∀ k, p ≤ k → k < p + C.length → g' k = g k) → odA g' p C := by
  intro C
  induction C with
  | nil => intro p _ _; trivial
  | cons x r ih =>
    intro p h e
    have l : (x :: r).length = r.length + 1 := rfl
    exact ⟨(e p (Nat.le_refl p) (by omega)).trans h.1, ih h.2 (fun k h1 h2 => e k (by omega) (by omega))⟩
theorem odA.app {g : Nat → Int32} : ∀ {C D : List Int32} {p : Nat}, odA g p (C ++ D) ↔ odA g p C ∧ odA g (p + C.length) D := by
  intro C
  induction C with
  | nil => intro D p; exact ⟨fun h => ⟨trivial, h⟩, fun h => h.2⟩
  | cons x r ih =>
    intro D p
    have l : p + (x :: r).length = p + 1 + r.length := by simp; omega
    rw [l]
    exact ⟨fun h => ⟨⟨h.1, (ih.mp h.2).1⟩, (ih.mp h.2).2⟩, fun h => ⟨h.1.1, ih.mpr ⟨h.1.2, h.2⟩⟩⟩
theorem odA.one {g : Nat → Int32} {p : Nat} {c : Int32} (h : g p = c) : odA g p [c] := ⟨h, trivial⟩
theorem rnV_app {v : Nat → Int32} : ∀ {C D st : List Int32}, rnV v (C ++ D) st = (rnV v C st).bind (rnV v D) := by
  intro C
  induction C with
  | nil => intro D st; rfl
  | cons c r ih =>
    intro D st
    show (opV v c st).bind (rnV v (r ++ D)) = ((opV v c st).bind (rnV v r)).bind (rnV v D)
    cases opV v c st with
    | none => rfl
    | some s => exact ih
theorem dpL_app {m : Nat} : ∀ {C D : List Int32} {d : Nat}, dpL m (C ++ D) d = (dpL m C d).bind (dpL m D) := by
  intro C
  induction C with
  | nil => intro D d; rfl
  | cons c r ih =>
    intro D d
    show (if -13 ≤ c.toInt then (if -9 ≤ c.toInt then (if d < m then dpL m (r ++ D) (d + 1) else none) else if 2 ≤ d then dpL m (r ++ D) (d - 1) else none) else none) = Option.bind (if -13 ≤ c.toInt then (if -9 ≤ c.toInt then (if d < m then dpL m r (d + 1) else none) else if 2 ≤ d then dpL m r (d - 1) else none) else none) (dpL m D)
    by_cases h1 : -13 ≤ c.toInt
    · rw [if_pos h1, if_pos h1]
      by_cases h2 : -9 ≤ c.toInt
      · rw [if_pos h2, if_pos h2]
        by_cases h3 : d < m
        · rw [if_pos h3, if_pos h3]; exact ih
        · rw [if_neg h3, if_neg h3]; rfl
      · rw [if_neg h2, if_neg h2]
        by_cases h3 : 2 ≤ d
        · rw [if_pos h3, if_pos h3]; exact ih
        · rw [if_neg h3, if_neg h3]; rfl
    · rw [if_neg h1, if_neg h1]; rfl
/-- one order on a pile that is deep enough: what it does, or a division by 0 -/
theorem opV_ok {v : Nat → Int32} {c : Int32} {st : List Int32} (h1 : -13 ≤ c.toInt) (h2 : -9 ≤ c.toInt ∨ 2 ≤ st.length) : (-9 ≤ c.toInt ∧ opV v c st = some ((if 0 ≤ c.toInt then c else v (-1 - c.toInt).toNat) :: st)) ∨ (c.toInt < -9 ∧ ∃ a b r, st = b :: a :: r ∧ ((c.toInt = -13 ∧ b = 0 ∧ opV v c st = none) ∨ (c.toInt = -13 ∧ b ≠ 0 ∧ opV v c st = some (a / b :: r)) ∨ (c.toInt = -12 ∧ opV v c st = some (a * b :: r)) ∨ (c.toInt = -11 ∧ opV v c st = some ((a - b) :: r)) ∨ (c.toInt = -10 ∧ opV v c st = some ((a + b) :: r)))) := by
  by_cases h3 : -9 ≤ c.toInt
  · left
    refine ⟨h3, ?_⟩
    unfold opV
    rw [if_pos h3]
  · right
    refine ⟨by omega, ?_⟩
    rcases st with _ | ⟨b, _ | ⟨a, r⟩⟩
    · exact absurd (h2.resolve_left h3) (by simp)
    · exact absurd (h2.resolve_left h3) (by simp)
    · refine ⟨a, b, r, rfl, ?_⟩
      unfold opV
      rw [if_neg h3]
      simp only
      by_cases q : c.toInt = -13
      · rw [if_pos q]
        by_cases z : b = 0
        · left; exact ⟨q, z, if_pos z⟩
        · right; left; exact ⟨q, z, if_neg z⟩
      · right; right
        rw [if_neg q]
        by_cases q2 : c.toInt = -12
        · left; exact ⟨q2, by rw [if_pos q2]⟩
        · right
          rw [if_neg q2]
          by_cases q3 : c.toInt = -11
          · left; exact ⟨q3, by rw [if_pos q3]⟩
          · right
            rw [if_neg q3]
            exact ⟨by omega, rfl⟩
/-- how deep, one order on -/
theorem dpL_cons {m : Nat} {c : Int32} {r : List Int32} {d e : Nat} (h : dpL m (c :: r) d = some e) : -13 ≤ c.toInt ∧ ((-9 ≤ c.toInt ∧ d < m ∧ dpL m r (d + 1) = some e) ∨ (c.toInt < -9 ∧ 2 ≤ d ∧ dpL m r (d - 1) = some e)) := by
  have h' : (if -13 ≤ c.toInt then (if -9 ≤ c.toInt then (if d < m then dpL m r (d + 1) else none) else if 2 ≤ d then dpL m r (d - 1) else none) else none) = some e := h
  by_cases h1 : -13 ≤ c.toInt
  · rw [if_pos h1] at h'
    refine ⟨h1, ?_⟩
    by_cases h2 : -9 ≤ c.toInt
    · rw [if_pos h2] at h'
      by_cases h3 : d < m
      · rw [if_pos h3] at h'; exact Or.inl ⟨h2, h3, h'⟩
      · rw [if_neg h3] at h'; cases h'
    · rw [if_neg h2] at h'
      by_cases h3 : 2 ≤ d
      · rw [if_pos h3] at h'; exact Or.inr ⟨by omega, h3, h'⟩
      · rw [if_neg h3] at h'; cases h'
  · rw [if_neg h1] at h'; cases h'
theorem rnV_len {v : Nat → Int32} {m : Nat} : ∀ {C st : List Int32} {e : Nat} {s : List Int32}, dpL m C st.length = some e → rnV v C st = some s → s.length = e := by
  intro C
  induction C with
  | nil => intro st e s h1 h2; cases h1; cases h2; rfl
  | cons c r ih =>
    intro st e s h1 h2
    obtain ⟨g1, g2⟩ := dpL_cons h1
    have h3 : (opV v c st).bind (rnV v r) = some s := h2
    rcases opV_ok (v := v) (st := st) g1 (by omega) with ⟨o1, o2⟩ | ⟨o1, a, b, t, o2, o3⟩
    · rcases g2 with ⟨k1, k2, k3⟩ | ⟨k1, _⟩
      · rw [o2] at h3
        exact ih (st := (if 0 ≤ c.toInt then c else v (-1 - c.toInt).toNat) :: st) k3 h3
      · omega
    · rcases g2 with ⟨k1, _⟩ | ⟨k1, k2, k3⟩
      · omega
      · subst o2
        have k4 (x : Int32) : dpL m r (x :: t).length = some e := k3
        rcases o3 with ⟨_, _, o⟩ | ⟨_, _, o⟩ | ⟨_, o⟩ | ⟨_, o⟩ | ⟨_, o⟩
        · rw [o] at h3; cases h3
        · rw [o] at h3; exact ih (k4 _) h3
        · rw [o] at h3; exact ih (k4 _) h3
        · rw [o] at h3; exact ih (k4 _) h3
        · rw [o] at h3; exact ih (k4 _) h3
/-- what lies below isn't looked at -/
theorem rnV_below {v : Nat → Int32} {m : Nat} {w : List Int32} : ∀ {C st : List Int32} {e : Nat}, dpL m C st.length = some e → rnV v C (st ++ w) = (rnV v C st).map (fun s => s ++ w) := by
  intro C
  induction C with
  | nil => intro st e h1; rfl
  | cons c r ih =>
    intro st e h1
    obtain ⟨g1, g2⟩ := dpL_cons h1
    show (opV v c (st ++ w)).bind (rnV v r) = ((opV v c st).bind (rnV v r)).map _
    have hw : -9 ≤ c.toInt ∨ 2 ≤ st.length := by omega
    rcases opV_ok (v := v) (st := st) g1 hw with ⟨o1, o2⟩ | ⟨o1, a, b, t, o2, o3⟩
    · rcases g2 with ⟨k1, k2, k3⟩ | ⟨k1, _⟩
      · rw [o2]
        have : opV v c (st ++ w) = some ((if 0 ≤ c.toInt then c else v (-1 - c.toInt).toNat) :: (st ++ w)) := by
          unfold opV; rw [if_pos o1]
        rw [this]
        exact ih (st := (if 0 ≤ c.toInt then c else v (-1 - c.toInt).toNat) :: st) k3
      · omega
    · rcases g2 with ⟨k1, _⟩ | ⟨k1, k2, k3⟩
      · omega
      · subst o2
        have k4 (x : Int32) : dpL m r (x :: t).length = some e := k3
        rcases opV_ok (v := v) (st := (b :: a :: t) ++ w) g1 (Or.inr (by simp)) with ⟨p1, _⟩ | ⟨p1, a', b', t', p2, p3⟩
        · omega
        · have q : b = b' ∧ a = a' ∧ t ++ w = t' := by simpa using p2
          obtain ⟨rfl, rfl, rfl⟩ := q
          rcases o3 with ⟨x1, x2, o⟩ | ⟨x1, x2, o⟩ | ⟨x1, o⟩ | ⟨x1, o⟩ | ⟨x1, o⟩ <;> rcases p3 with ⟨y1, y2, p⟩ | ⟨y1, y2, p⟩ | ⟨y1, p⟩ | ⟨y1, p⟩ | ⟨y1, p⟩ <;> first | (exfalso; omega) | (exact absurd x2 y2) | (exact absurd y2 x2) | (rw [o, p]; rfl) | (rw [o, p]; exact ih (st := _ :: t) (k4 _))
/-! A LAW: its tests, each with what it tells if it holds, and what it tells else -/
def lwV (v : Nat → Int32) : List ((List Int32 × List Int32) × List Int32) → List Int32 → Int32
  | [], f => match rnV v f [] with
    | some [x] => x
    | _ => 0
  | ((a, b), c) :: r, f => match rnV v (a ++ b) [] with
    | some [y, x] => if x.toInt < y.toInt then (match rnV v c [] with
      | some [z] => z
      | _ => 0) else lwV v r f
    | _ => 0
/-- a sum's orders: at most m lie on the pile, then one -/
def gdC (m : Nat) (C : List Int32) : Prop := dpL m C 0 = some 1
/-- the tests can be gone through -/
def gdB (m : Nat) (bs : List ((List Int32 × List Int32) × List Int32)) : Prop := ∀ b ∈ bs, gdC m b.1.1 ∧ dpL m (b.1.1 ++ b.1.2) 0 = some 2 ∧ gdC m b.1.2 ∧ gdC m b.2
end
section
/-! A LAW's value, the class -/
theorem lit_404' : (404 : Int32).toInt = 404 := by decide
section CV
variable {a b2 : Nat} {l1 : Int32} {v : Nat → Int32} {P : Int32 × Hp → Prop} {h0 : Hp}
theorem agr.tr {x : Nat} {p q r : Hp} (h1 : agr x p q) (h2 : agr x q r) : agr x p r := ⟨fun y k n => (h2.1 y k n).trans (h1.1 y k n), fun y k => (h2.2 y k).trans (h1.2 y k)⟩
theorem agr.rf (x : Nat) (p : Hp) : agr x p p := ⟨fun _ _ _ => rfl, fun _ _ => rfl⟩
theorem agr.w {x : Nat} {p q : Hp} (h : agr x p q) (k : Nat) (u : Int32) : agr x p (wrI q x k u) := ⟨fun y j n => by rw [hi_wrI, if_neg (fun z => n z.1)]; exact h.1 y j n, fun y j => h.2 y j⟩
theorem sk_push {x : Nat} {h : Hp} {st : List Int32} {u : Int32} (s : skR (hi h x) st) : skR (hi (wrI h x st.length u) x) (u :: st) := by
  refine ⟨by rw [hi_wrI, if_pos ⟨rfl, rfl⟩], s.cg (fun k hk => ?_)⟩
  rw [hi_wrI, if_neg (by omega)]
theorem sk_op {x : Nat} {h : Hp} {r : List Int32} {p q u : Int32} (s : skR (hi h x) (q :: p :: r)) : skR (hi (wrI h x r.length u) x) (u :: r) := by
  refine ⟨by rw [hi_wrI, if_pos ⟨rfl, rfl⟩], s.2.2.cg (fun k hk => ?_)⟩
  rw [hi_wrI, if_neg (by omega)]
set_option maxHeartbeats 4000000 in
/-- orders gone through -/
theorem cv_run {S : Int} (sz : (hi h0 a 3).toInt = S) (s4 : S ≤ 404) (hv : ∀ k, k < 9 → hi h0 b2 k = v k) (nb : b2 ≠ a + 3) : ∀ (C st : List Int32) (e : Nat) (n : Nat) (h : Hp) (l3 l4 l5 : Int32) (p : Nat), agr (a + 3) h0 h → dpL 16 C st.length = some e → odA (hi h0 (a + 1)) p C → (p : Int) + C.length < S → skR (hi h (a + 3)) st → l3.toInt = (st.length : Int) → l4.toInt = (p : Int) → 0 ≤ l5.toInt → l5.toInt ≤ l4.toInt → (∀ (s : List Int32) (n' : Nat) (h' : Hp) (l3' l4' l5' : Int32), rnV v C st = some s → agr (a + 3) h0 h' → skR (hi h' (a + 3)) s → l3'.toInt = (s.length : Int) → l4'.toInt = (p : Int) + C.length → 0 ≤ l5'.toInt → l5'.toInt ≤ l4'.toInt → Pc (W_X4_value n' 29 h' a b2 l1 l3' l4' l5') P) → (rnV v C st = none → ∀ h', agr (a + 3) h0 h' → P (0, h')) → Pc (W_X4_value n 29 h a b2 l1 l3 l4 l5) P := by
  have f0 := lit_0
  have f1 := lit_1
  have f2 := lit_2
  have f9 := lit_9
  have f16 := lit_16
  have f4 := lit_404'
  have m1 := lit_m1
  have m9 := lit_m9
  have m10 := lit_m10
  have m11 := lit_m11
  have m12 := lit_m12
  have m13 := lit_m13
  have m14 := lit_m14
  have m15 := lit_m15
  intro C
  induction C with
  | nil =>
    intro st e n h l3 l4 l5 p g d o z s e3 e4 e5 e6 K N
    exact K st n h l3 l4 l5 rfl g s e3 (by simpa using e4) e5 e6
  | cons c r ih =>
    intro st e n h l3 l4 l5 p g d o z s e3 e4 e5 e6 K N
    cases n with
    | zero => exact Pc.no
    | succ n =>
      have lr : ((c :: r).length : Int) = r.length + 1 := by simp
      have g3 : hi h a 3 = hi h0 a 3 := g.1 a 3 (by omega)
      have g1 (k : Nat) : hi h (a + 1) k = hi h0 (a + 1) k := g.1 (a + 1) k (by omega)
      have gb (k : Nat) : hi h b2 k = hi h0 b2 k := g.1 b2 k nb
      have n4 := ncT (show 0 ≤ l4.toInt by omega)
      have n4' : Int32.toNatClampNeg l4 = p := by omega
      obtain ⟨d1, d2⟩ := dpL_cons d
      rw [u_X4_value, g3, n4', g1 p, o.1]
      refine Pc.pos rfl ?_
      refine Pc.le (fun q => by exfalso; omega) (fun _ => ?_)
      refine Pc.lt (fun q => by exfalso; omega) (fun _ => ?_)
      refine Pc.le (fun q => by exfalso; omega) (fun _ => ?_)
      refine Pc.chk (fun _ => ?_)
      have a4 := adT l4 1 (by omega) (by omega)
      have a5 := adT l5 1 (by omega) (by omega)
      have nx (s1 : List Int32) (h1 : Hp) (l3' : Int32) (e' : opV v c st = some s1) (x1 : agr (a + 3) h0 h1) (x2 : skR (hi h1 (a + 3)) s1) (x3 : l3'.toInt = (s1.length : Int)) (x4 : dpL 16 r s1.length = some e) : Pc (W_X4_value n 29 h1 a b2 l1 l3' (l4 + 1) (l5 + 1)) P := by
        refine ih s1 e n h1 l3' (l4 + 1) (l5 + 1) (p + 1) x1 x4 o.2 (by omega) x2 x3 (by omega) (by omega) (by omega) (fun s2 n' h' y3 y4 y5 w1 w2 w3 w4 w5 w6 w7 => ?_) (fun w1 h' w2 => ?_)
        · refine K s2 n' h' y3 y4 y5 ?_ w2 w3 w4 (by omega) w6 w7
          show (opV v c st).bind (rnV v r) = _
          rw [e']; exact w1
        · refine N ?_ h' w2
          show (opV v c st).bind (rnV v r) = _
          rw [e']; exact w1
      rcases opV_ok (v := v) (st := st) d1 (by omega) with ⟨o1, o2⟩ | ⟨o1, x, y, t, o2, o3⟩
      · rcases d2 with ⟨k1, k2, k3⟩ | ⟨k1, _⟩
        · refine Pc.lt (fun q => by exfalso; omega) (fun _ => ?_)
          refine Pc.le (fun q => by exfalso; omega) (fun _ => ?_)
          have rc := rgT c
          generalize esc : ((-1 : Int32) - c) = sc
          have sb := sbG esc m1 rfl (by omega) (by omega)
          clear esc
          have n3 := ncT (show 0 ≤ l3.toInt by omega)
          have n3' : Int32.toNatClampNeg l3 = st.length := by omega
          have a3 := adT l3 1 (by omega) (by omega)
          have sl (u : Int32) : (u :: st).length = st.length + 1 := rfl
          refine Pc.lt (fun q => ?_) (fun q => by exfalso; omega)
          refine Pc.lt (fun q => ?_) (fun q => ?_)
          · refine Pc.chk (fun _ => Pc.chk (fun _ => ?_))
            have ns := ncT (show 0 ≤ sc.toInt by omega)
            have ns' : Int32.toNatClampNeg sc = (-1 - c.toInt).toNat := by omega
            rw [n3', ns', gb, hv _ (by omega)]
            rw [if_neg (by omega)] at o2
            exact nx _ _ _ o2 (g.w _ _) (sk_push s) (by rw [sl]; omega) k3
          · refine Pc.chk (fun _ => ?_)
            rw [n3']
            rw [if_pos (by omega)] at o2
            exact nx _ _ _ o2 (g.w _ _) (sk_push s) (by rw [sl]; omega) k3
        · exfalso; omega
      · rcases d2 with ⟨k1, _⟩ | ⟨k1, k2, k3⟩
        · exfalso; omega
        · subst o2
          have sl : ((y :: x :: t).length : Int) = t.length + 2 := by simp; omega
          have r3 := rgT l3
          generalize ed1 : (l3 + -1 : Int32) = d1
          generalize ed2 : (d1 - 1 : Int32) = d2
          have b1 := adG ed1 (e3.trans sl) m1 (by omega) (by omega)
          have b2' := sbG ed2 b1 f1 (by omega) (by omega)
          clear ed1 ed2
          have na := ncT (show 0 ≤ d1.toInt by omega)
          have na' : Int32.toNatClampNeg d1 = t.length + 1 := by omega
          have nb := ncT (show 0 ≤ d2.toInt by omega)
          have nb' : Int32.toNatClampNeg d2 = t.length := by omega
          have sy : hi h (a + 3) (t.length + 1) = y := s.1
          have sx : hi h (a + 3) t.length = x := s.2.1
          have k4 (u : Int32) : dpL 16 r (u :: t).length = some e := k3
          have tl (u : Int32) : ((u :: t).length : Int) = t.length + 1 := by simp
          refine Pc.lt (fun _ => ?_) (fun q => by exfalso; omega)
          refine Pc.eq (fun q => by exfalso; omega) (fun _ => ?_)
          refine Pc.le (fun _ => ?_) (fun q => by exfalso; omega)
          refine Pc.chk (fun _ => Pc.chk (fun _ => ?_))
          rw [na', nb', sy, sx]
          refine Pc.eq (fun q => by exfalso; omega) (fun _ => ?_)
          have go (u : Int32) (e' : opV v c (y :: x :: t) = some (u :: t)) : Pc (if ixOK d2 16 = true then W_X4_value n 29 (wrI h (a + 3) t.length u) a b2 l1 d1 (l4 + 1) (l5 + 1) else none) P :=
            Pc.chk (fun _ => nx _ _ _ e' (g.w _ _) (sk_op s) (by rw [tl]; omega) (k4 u))
          refine Pc.eq (fun q => ?_) (fun q => ?_)
          · refine Pc.eq (fun q2 => ?_) (fun q2 => ?_)
            · have y0 : y = 0 := Int32.toInt_inj.mp q2
              rcases o3 with ⟨w1, w2, w3⟩ | ⟨w1, w2, w3⟩ | ⟨w1, w3⟩ | ⟨w1, w3⟩ | ⟨w1, w3⟩
              · refine Pc.ret (N ?_ h g)
                show (opV v c (y :: x :: t)).bind (rnV v r) = _
                rw [w3]; rfl
              · exact absurd y0 w2
              · exfalso; omega
              · exfalso; omega
              · exfalso; omega
            · have y0 : y ≠ 0 := fun z => q2 (by rw [z])
              unfold F_X4_reckon
              rcases o3 with ⟨w1, w2, w3⟩ | ⟨w1, w2, w3⟩ | ⟨w1, w3⟩ | ⟨w1, w3⟩ | ⟨w1, w3⟩
              · exact absurd w2 y0
              · refine Pc.bind (Q := fun q => q = (x / y, h)) (Pc.eq (fun _ => Pc.eq (fun z => absurd z q2) (fun _ => Pc.eq (fun z => absurd z q2) (fun _ => Pc.ret rfl))) (fun z => absurd q z)) (fun q hq => ?_)
                rw [hq]
                exact go _ w3
              · exfalso; omega
              · exfalso; omega
              · exfalso; omega
          · unfold F_X4_reckon
            rcases o3 with ⟨w1, w2, w3⟩ | ⟨w1, w2, w3⟩ | ⟨w1, w3⟩ | ⟨w1, w3⟩ | ⟨w1, w3⟩
            · exfalso; omega
            · exfalso; omega
            · refine Pc.bind (Q := fun q => q = (x * y, h)) (Pc.eq (fun z => by exfalso; omega) (fun _ => Pc.eq (fun _ => Pc.ret rfl) (fun z => by exfalso; omega))) (fun q hq => ?_)
              rw [hq]
              exact go _ w3
            · refine Pc.bind (Q := fun q => q = (x - y, h)) (Pc.eq (fun z => by exfalso; omega) (fun _ => Pc.eq (fun z => by exfalso; omega) (fun _ => Pc.eq (fun _ => Pc.ret rfl) (fun z => by exfalso; omega)))) (fun q hq => ?_)
              rw [hq]
              exact go _ w3
            · refine Pc.bind (Q := fun q => q = (x + y, h)) (Pc.eq (fun z => by exfalso; omega) (fun _ => Pc.eq (fun z => by exfalso; omega) (fun _ => Pc.eq (fun z => by exfalso; omega) (fun _ => Pc.eq (fun _ => Pc.ret rfl) (fun z => by exfalso; omega))))) (fun q hq => ?_)
              rw [hq]
              exact go _ w3
/-- what is laid down of a law from p on, S how many orders there are -/
def clO (g : Nat → Int32) (S : Nat) : Nat → List ((List Int32 × List Int32) × List Int32) → List Int32 → Prop
  | p, [], f => odA g p (f ++ [-15]) ∧ p + f.length < S
  | p, ((x, y), c) :: r, f => odA g p (x ++ y) ∧ g (p + (x ++ y).length) = -14 ∧ (g (p + (x ++ y).length + 1)).toInt = ((p + (x ++ y).length + 2 + c.length + 1 : Nat) : Int) ∧ odA g (p + (x ++ y).length + 2) (c ++ [-15]) ∧ p + (x ++ y).length + 2 + c.length < S ∧ clO g S (p + (x ++ y).length + 2 + c.length + 1) r f
/-- a term's end -/
theorem cv_end {S : Int} (sz : (hi h0 a 3).toInt = S) (s4 : S ≤ 404) (hv : ∀ k, k < 9 → hi h0 b2 k = v k) (nb : b2 ≠ a + 3) {C : List Int32} (gd : gdC 16 C) {n : Nat} {h : Hp} {l3 l4 l5 : Int32} {p : Nat} (g : agr (a + 3) h0 h) (o : odA (hi h0 (a + 1)) p (C ++ [-15])) (z : (p : Int) + C.length < S) (e3 : l3.toInt = 0) (e4 : l4.toInt = (p : Int)) (e5 : 0 ≤ l5.toInt) (e6 : l5.toInt ≤ l4.toInt) : Pc (W_X4_value n 29 h a b2 l1 l3 l4 l5) (fun q => agr (a + 3) h0 q.2 ∧ q.1 = (match rnV v C [] with
    | some [x] => x
    | _ => 0)) := by
  have f1 := lit_1
  have f4 := lit_404'
  have f0 := lit_0
  have m9 := lit_m9
  have m15 := lit_m15
  obtain ⟨o1, o2⟩ := odA.app.mp o
  refine cv_run sz s4 hv nb C [] 1 n h l3 l4 l5 p g gd o1 z trivial e3 e4 e5 e6 (fun s n' h' y3 y4 y5 w1 w2 w3 w4 w5 w6 w7 => ?_) (fun w1 h' w2 => ⟨w2, by rw [w1]⟩)
  have sl := rnV_len (st := []) gd w1
  rcases s with _ | ⟨x, _ | ⟨u, t⟩⟩
  · exact absurd sl (by simp)
  rotate_left
  · exact absurd sl (by simp)
  · rw [w1]
    cases n' with
    | zero => exact Pc.no
    | succ n' =>
      have n4 := ncT (show 0 ≤ y4.toInt by omega)
      have n4' : Int32.toNatClampNeg y4 = p + C.length := by omega
      have lx : (([x] : List Int32).length : Int) = 1 := rfl
      rw [u_X4_value, w2.1 a 3 (by omega), n4', w2.1 (a + 1) _ (by omega), o2.1]
      refine Pc.pos rfl ?_
      refine Pc.le (fun q => by exfalso; omega) (fun _ => ?_)
      refine Pc.lt (fun q => by exfalso; omega) (fun _ => ?_)
      refine Pc.le (fun q => by exfalso; omega) (fun _ => ?_)
      refine Pc.chk (fun _ => ?_)
      refine Pc.lt (fun _ => ?_) (fun q => by exfalso; omega)
      refine Pc.eq (fun _ => ?_) (fun q => by exfalso; omega)
      refine Pc.eq (fun _ => Pc.ret ⟨w2, w3.1⟩) (fun q => by exfalso; omega)
set_option maxHeartbeats 2000000 in
/-- a law from p on -/
theorem cv_law {S : Nat} (sz : (hi h0 a 3).toInt = (S : Int)) (s4 : S ≤ 404) (hv : ∀ k, k < 9 → hi h0 b2 k = v k) (nb : b2 ≠ a + 3) {f : List Int32} (gf : gdC 16 f) : ∀ (bs : List ((List Int32 × List Int32) × List Int32)) (n : Nat) (h : Hp) (l3 l4 l5 : Int32) (p : Nat), gdB 16 bs → agr (a + 3) h0 h → clO (hi h0 (a + 1)) S p bs f → l3.toInt = 0 → l4.toInt = (p : Int) → 0 ≤ l5.toInt → l5.toInt ≤ l4.toInt → Pc (W_X4_value n 29 h a b2 l1 l3 l4 l5) (fun q => agr (a + 3) h0 q.2 ∧ q.1 = lwV v bs f) := by
  have f1 := lit_1
  have f2 := lit_2
  have f4 := lit_404'
  have f0 := lit_0
  have m1 := lit_m1
  have m9 := lit_m9
  have m14 := lit_m14
  have m15 := lit_m15
  intro bs
  induction bs with
  | nil =>
    intro n h l3 l4 l5 p gb g o e3 e4 e5 e6
    exact cv_end sz (by omega) hv nb gf g o.1 (by have := o.2; omega) e3 e4 e5 e6
  | cons b r ih =>
    intro n h l3 l4 l5 p gb g o e3 e4 e5 e6
    obtain ⟨⟨x, y⟩, c⟩ := b
    obtain ⟨o1, o2, o3, o4, o5, o6⟩ := o
    have gd := gb _ (List.mem_cons_self ..)
    have gr : gdB 16 r := fun b hb => gb b (List.mem_cons_of_mem _ hb)
    refine cv_run sz (by omega) hv nb (x ++ y) [] 2 n h l3 l4 l5 p g gd.2.1 o1 (by omega) trivial e3 e4 e5 e6 (fun s n' h' y3 y4 y5 w1 w2 w3 w4 w5 w6 w7 => ?_) (fun w1 h' w2 => ⟨w2, by show (0 : Int32) = _; unfold lwV; rw [w1]⟩)
    have sl := rnV_len (st := []) gd.2.1 w1
    rcases s with _ | ⟨q1, _ | ⟨q2, _ | ⟨q3, t⟩⟩⟩
    · exact absurd sl (by simp)
    · exact absurd sl (by simp)
    rotate_left
    · exact absurd sl (by simp)
    · unfold lwV
      rw [w1]
      simp only
      cases n' with
      | zero => exact Pc.no
      | succ n' =>
        have n4 := ncT (show 0 ≤ y4.toInt by omega)
        have n4' : Int32.toNatClampNeg y4 = p + (x ++ y).length := by omega
        have lx : (([q1, q2] : List Int32).length : Int) = 2 := rfl
        have s1 : hi h' (a + 3) 1 = q1 := w3.1
        have s2 : hi h' (a + 3) 0 = q2 := w3.2.1
        have a4 := adT y4 1 (by omega) (by omega)
        have a44 := adT (y4 + 1) 1 (by omega) (by omega)
        have a5 := adT y5 1 (by omega) (by omega)
        have t3 := w2.1 a 3 (by omega)
        rw [u_X4_value, t3, n4', w2.1 (a + 1) _ (by omega), o2]
        generalize ed1 : (y3 + -1 : Int32) = d1
        generalize ed2 : (d1 - 1 : Int32) = d2
        generalize ed3 : (d1 + -1 : Int32) = d3
        have b1 := adG ed1 (w4.trans lx) m1 (by omega) (by omega)
        have b2' := sbG ed2 b1 f1 (by omega) (by omega)
        have b3 := adG ed3 b1 m1 (by omega) (by omega)
        clear ed1 ed2 ed3
        have na := ncT (show 0 ≤ d1.toInt by omega)
        have na' : Int32.toNatClampNeg d1 = 1 := by omega
        have nbv := ncT (show 0 ≤ d2.toInt by omega)
        have nb' : Int32.toNatClampNeg d2 = 0 := by omega
        rw [na', nb', s1, s2]
        refine Pc.pos rfl ?_
        refine Pc.le (fun q => by exfalso; omega) (fun _ => ?_)
        refine Pc.lt (fun q => by exfalso; omega) (fun _ => ?_)
        refine Pc.le (fun q => by exfalso; omega) (fun _ => ?_)
        refine Pc.chk (fun _ => ?_)
        refine Pc.lt (fun _ => ?_) (fun q => by exfalso; omega)
        refine Pc.eq (fun q => by exfalso; omega) (fun _ => ?_)
        refine Pc.le (fun _ => ?_) (fun q => by exfalso; omega)
        refine Pc.chk (fun _ => Pc.chk (fun _ => ?_))
        refine Pc.eq (fun _ => ?_) (fun q => by exfalso; omega)
        refine Pc.le (fun q => ?_) (fun q => ?_)
        · rw [if_neg (by omega)]
          have n5 := ncT (show 0 ≤ (y4 + 1).toInt by omega)
          have n5' : Int32.toNatClampNeg (y4 + 1) = p + (x ++ y).length + 1 := by omega
          refine Pc.bind (Q := fun q => q = (hi h0 (a + 1) (p + (x ++ y).length + 1), h')) ?_ (fun q hq => ?_)
          · unfold F_X4_elseOf
            rw [t3, n5', w2.1 (a + 1) _ (by omega)]
            refine Pc.lt (fun q => by exfalso; omega) (fun _ => ?_)
            refine Pc.le (fun q => by exfalso; omega) (fun _ => ?_)
            exact Pc.chk (fun _ => Pc.ret rfl)
          · rw [hq]
            exact ih n' h' d3 (hi h0 (a + 1) (p + (x ++ y).length + 1)) (y5 + 1) _ gr w2 o6 (by omega) o3 (by omega) (by omega)
        · rw [if_pos (by omega)]
          exact cv_end (C := c) sz (by omega) hv nb gd.2.2.2 w2 o4 (by omega) (by omega) (by omega) (by omega) (by omega)
end CV
end
