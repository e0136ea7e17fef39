/-! SUMS: the reference -/
def frE (h h' : Hp) : Prop := (∀ a k, a ≠ 257 → a ≠ 258 → a ≠ 259 → ¬ (a = 226 ∧ (k = 11 ∨ k = 12 ∨ k = 13 ∨ k = 14 ∨ k = 45 ∨ k = 49)) → hi h' a k = hi h a k) ∧ ∀ a k, hl h' a k = hl h a k
/-- only codes, and what waits, have changed -/
def frN (h h' : Hp) : Prop := (∀ a k, a ≠ 257 → a ≠ 258 → a ≠ 259 → ¬ (a = 226 ∧ (k = 45 ∨ k = 49)) → hi h' a k = hi h a k) ∧ ∀ a k, hl h' a k = hl h a k
section EE
variable {N : Nat} {kd pl vl : Nat → Int} {h h' : Hp} {t : Nat} {f : Int} {n : Nat}
theorem frE.rf (h : Hp) : frE h h := ⟨fun _ _ _ _ _ _ => rfl, fun _ _ => rfl⟩
theorem frE.tr {h0 h1 h2 : Hp} (a : frE h0 h1) (b : frE h1 h2) : frE h0 h2 := ⟨fun x k n1 n2 n3 n4 => (b.1 x k n1 n2 n3 n4).trans (a.1 x k n1 n2 n3 n4), fun x k => (b.2 x k).trans (a.2 x k)⟩
theorem frQ.e (a : frQ h h') : frE h h' := ⟨fun x k _ _ _ n => a.1 x k (by omega), a.2⟩
theorem frN.e (a : frN h h') : frE h h' := ⟨fun x k n1 n2 n3 n => a.1 x k n1 n2 n3 (by omega), a.2⟩
theorem frN.tr {h0 h1 h2 : Hp} (a : frN h0 h1) (b : frN h1 h2) : frN h0 h2 := ⟨fun x k n1 n2 n3 n4 => (b.1 x k n1 n2 n3 n4).trans (a.1 x k n1 n2 n3 n4), fun x k => (b.2 x k).trans (a.2 x k)⟩
theorem frE.rt (a : frE h h') : rtK h h' := ⟨fun k => a.1 229 k (by decide) (by decide) (by decide) (by omega), fun k => a.1 230 k (by decide) (by decide) (by decide) (by omega), fun k => a.1 231 k (by decide) (by decide) (by decide) (by omega)⟩
theorem frN.st (a : frN h h') (S : rT pl h f t) : rT pl h' f t := by
  have e (k : Nat) (n : ¬ (k = 45 ∨ k = 49)) : hi h' 226 k = hi h 226 k := a.1 226 k (by decide) (by decide) (by decide) (by omega)
  unfold rT
  rw [e 13 (by decide), e 11 (by decide), e 14 (by decide)]
  exact S
theorem frN.op (a : frN h h') : hi h' 226 12 = hi h 226 12 := a.1 226 12 (by decide) (by decide) (by decide) (by decide)
theorem frQ.op (a : frQ h h') : hi h' 226 12 = hi h 226 12 := a.1 226 12 (by decide)
theorem pr_emit {x1 x2 : Int32} : Pc (F_X12_emit n h x1 x2) (fun q => frN h q) := by
  unfold F_X12_emit
  refine Pc.chk (fun _ => Pc.chk (fun _ => Pc.ret ⟨fun a k n1 n2 n3 n4 => ?_, fun a k => rfl⟩))
  rw [hi_wrI, if_neg (by omega), hi_wrI, if_neg (by omega), hi_wrI, if_neg (by omega)]
theorem pr_comesOut {l1 : Int32} : ∀ (n : Nat) (h : Hp), Pc (W_X12_comesOut n 0 h l1) (fun q => frN h q) := by
  intro n
  induction n with
  | zero => intro h; exact Pc.no
  | succ n ih =>
    intro h
    have me : frN h h := ⟨fun _ _ _ _ _ _ => rfl, fun _ _ => rfl⟩
    have wr (v : Int32) : frN h (wrI h 226 49 v) := ⟨fun a k n1 n2 n3 n4 => by rw [hi_wrI, if_neg (by omega)], fun _ _ => rfl⟩
    have go (v a b : Int32) : Pc ((F_X12_emit n (wrI h 226 49 v) a b).bind (fun q => W_X12_comesOut n 0 q l1)) (fun q => frN h q) := Pc.bind pr_emit (fun q hq => (ih q).mono (fun r hr => ((wr v).tr hq).tr hr))
    rw [u_X12_comesOut]
    refine Pc.pos rfl ?_
    refine Pc.ite (fun _ => Pc.ret me) (fun _ => Pc.chk (fun _ => ?_))
    refine Pc.ite (fun _ => Pc.ret me) (fun _ => ?_)
    refine Pc.ite (fun _ => ?_) (fun _ => ?_)
    · exact Pc.ite (fun _ => go _ _ _) (fun _ => Pc.ite (fun _ => go _ _ _) (fun _ => Pc.ite (fun _ => go _ _ _) (fun _ => go _ _ _)))
    · exact Pc.ite (fun _ => Pc.ret me) (fun _ => Pc.ite (fun _ => Pc.ret me) (fun _ => Pc.ite (fun _ => go _ _ _) (fun _ => Pc.ite (fun _ => go _ _ _) (fun _ => Pc.ite (fun _ => go _ _ _) (fun _ => go _ _ _)))))
theorem rk_var : ∀ k ∈ vdL, (33 ≤ rk k ∧ rk k ≤ 41) ↔ (0 ≤ k ∧ k < 9) := by decide
/-- a TOKEN that is there is taken -/
def gnS (t : Nat) : Int × Nat := if t < 400 then (0, t + 1) else (2, t)
theorem pr_goesOn' (R : RT N kd pl vl h) (T : tI2 N t) (S : rT pl h 0 t) : Pc (F_X12_goesOn n h) (fun q => frQ h q ∧ rT pl q (gnS t).1 (gnS t).2) := by
  refine (pr_goesOn R T S).mono (fun q hq => ⟨hq.1, ?_⟩)
  have z := hq.2
  unfold gnS
  by_cases c : t < 400
  · rw [if_pos c] at z ⊢
    rw [if_pos c] at z
    exact z
  · rw [if_neg c] at z ⊢
    rw [if_neg c] at z
    exact z
theorem gn_in (X : TX N kd pl vl) (T : tI2 N t) (h2 : kd t ≠ 32) : tI2 N (gnS t).2 := by
  have := tk_in X T (k := kd t) (f := 0) h2
  unfold tkS at this
  rw [if_pos rfl, if_pos rfl] at this
  exact this
def unP (N : Nat) (kd pl : Nat → Int) (t : Nat) (h q : Hp) : Prop := frE h q ∧ hi q 226 12 = hi h 226 12 ∧ ((isUn (kd t) ∧ rT pl q (gnS t).1 (gnS t).2) ∨ (¬ isUn (kd t) ∧ rT pl q 1 t))
theorem pr_unit (X : TX N kd pl vl) (R : RT N kd pl vl h) (T : tI2 N t) (S : rT pl h 0 t) : Pc (F_X12_unit n h) (unP N kd pl t h) := by
  have f0 := lit_0
  have f1 := lit_1
  have l33 : (33 : Int32).toInt = 33 := by decide
  have l41 := lit_41
  have d30 : (30 : Int) ∈ vdL := by decide
  unfold F_X12_unit
  refine Pc.bind (pr_is X R T S 30 d30 (by decide)) (fun q1 h1 => ?_)
  rw [h1.1]
  have st := S.2.2.1 rfl
  have n1 := ncT (show 0 ≤ (hi h 226 11).toInt by omega)
  have n2 : Int32.toNatClampNeg (hi h 226 11) = t := by omega
  rw [n2]
  have rt := (R t T).1
  have rv := rk_var _ (vdT X T)
  have em (hu : isUn (kd t)) (a b : Int32) : Pc ((F_X12_emit n h a b).bind (fun q16 => ((F_X12_goesOn n q16).bind (fun q18 => some q18)))) (unP N kd pl t h) := by
    refine Pc.bind pr_emit (fun q16 h16 => ?_)
    refine Pc.bind (pr_goesOn' (R.cg h16.e.rt) T (h16.st S)) (fun q hq => Pc.ret ⟨h16.e.tr hq.1.e, hq.1.op.trans h16.op, Or.inl ⟨hu, hq.2⟩⟩)
  have no (nu : ¬ isUn (kd t)) : Pc ((F_X12_fail n h 1).bind (fun q9 => some q9)) (unP N kd pl t h) := by
    refine Pc.bind (pr_fail R T S (by decide)) (fun q hq => Pc.ret ⟨hq.1.e, hq.1.op, Or.inr ⟨nu, ?_⟩⟩)
    have z := hq.2
    rw [if_pos rfl, f1] at z
    exact z
  refine Pc.eq (fun c => ?_) (fun c => ?_)
  · have n30 : kd t ≠ 30 := fun z => h1.2.mpr ⟨rfl, z⟩ (c.trans f0)
    refine Pc.eq (fun _ => ?_) (fun c2 => by have := S.2.1; exfalso; omega)
    refine Pc.chk (fun c3 => ?_)
    refine Pc.lt (fun c4 => no (by unfold isUn; omega)) (fun c4 => ?_)
    refine Pc.chk (fun _ => ?_)
    refine Pc.lt (fun c5 => no (by unfold isUn; omega)) (fun c5 => ?_)
    exact Pc.chk (fun _ => em (Or.inr (rv.mp (by omega))) _ _)
  · obtain ⟨-, e3⟩ := h1.2.mp (by omega)
    exact Pc.chk (fun _ => em (Or.inl e3) _ _)
theorem pr_isF (S : rT pl h f t) (fz : f ≠ 0) {x1 : Int32} : Pc (F_X12_is n h x1) (fun q => q.2 = h ∧ q.1.toInt = 0) := by
  have f0 := lit_0
  unfold F_X12_is
  exact Pc.eq (fun c => by have := S.2.1; exfalso; omega) (fun _ => Pc.ret ⟨rfl, f0⟩)
theorem pr_failF (S : rT pl h f t) (fz : f ≠ 0) {x1 : Int32} : Pc (F_X12_fail n h x1) (fun q => q = h) := by
  have f0 := lit_0
  unfold F_X12_fail
  exact Pc.le (fun c => by have := S.2.1; have := S.1; exfalso; omega) (fun _ => Pc.ret rfl)
def opG (n : Nat) (x : Hp) (s l1 : Int32) : Option Hp := ((F_X12_comesOut n x s).bind (fun q28 => (if ixOK (hi q28 226 11) 403 = true then (if ixOK (hi q28 226 49) 64 = true then ((F_X12_goesOn n (wrI (wrI q28 259 (Int32.toNatClampNeg (hi q28 226 49)) (hi q28 229 (Int32.toNatClampNeg (hi q28 226 11)))) 226 49 ((hi (wrI q28 259 (Int32.toNatClampNeg (hi q28 226 49)) (hi q28 229 (Int32.toNatClampNeg (hi q28 226 11)))) 226 49) + 1))).bind (fun q32 => W_X12_expression n 12 q32  l1 1)) else none) else none)))
def opD (n : Nat) (x : Hp) (l1 : Int32) : Option Hp := ((F_X12_is n x 10).bind (fun q25 => (if (q25.1 : Int32) = 0 then ((F_X12_is n q25.2 15).bind (fun q34 => (if (q34.1 : Int32) = 0 then ((F_X12_comesOut n q34.2 0).bind (fun q37 => (if ixOK (hi q37 226 11) 403 = true then (if ixOK (hi q37 226 49) 64 = true then ((F_X12_goesOn n (wrI (wrI q37 259 (Int32.toNatClampNeg (hi q37 226 49)) (hi q37 229 (Int32.toNatClampNeg (hi q37 226 11)))) 226 49 ((hi (wrI q37 259 (Int32.toNatClampNeg (hi q37 226 49)) (hi q37 229 (Int32.toNatClampNeg (hi q37 226 11)))) 226 49) + 1))).bind (fun q41 => W_X12_expression n 12 q41  l1 1)) else none) else none))) else ((F_X12_comesOut n q34.2 1).bind (fun q43 => (if ixOK (hi q43 226 11) 403 = true then (if ixOK (hi q43 226 49) 64 = true then ((F_X12_goesOn n (wrI (wrI q43 259 (Int32.toNatClampNeg (hi q43 226 49)) (hi q43 229 (Int32.toNatClampNeg (hi q43 226 11)))) 226 49 ((hi (wrI q43 259 (Int32.toNatClampNeg (hi q43 226 49)) (hi q43 229 (Int32.toNatClampNeg (hi q43 226 11)))) 226 49) + 1))).bind (fun q47 => W_X12_expression n 12 q47  l1 1)) else none) else none)))))) else ((F_X12_comesOut n q25.2 1).bind (fun q28 => (if ixOK (hi q28 226 11) 403 = true then (if ixOK (hi q28 226 49) 64 = true then ((F_X12_goesOn n (wrI (wrI q28 259 (Int32.toNatClampNeg (hi q28 226 49)) (hi q28 229 (Int32.toNatClampNeg (hi q28 226 11)))) 226 49 ((hi (wrI q28 259 (Int32.toNatClampNeg (hi q28 226 49)) (hi q28 229 (Int32.toNatClampNeg (hi q28 226 11)))) 226 49) + 1))).bind (fun q32 => W_X12_expression n 12 q32  l1 1)) else none) else none))))))
def mrT (n : Nat) (x : Hp) (l1 : Int32) : Option Hp := ((F_X12_is n x 8).bind (fun q21 => (if (q21.1 : Int32) = 0 then ((F_X12_is n q21.2 9).bind (fun q56 => (if (q56.1 : Int32) = 0 then ((F_X12_is n q56.2 10).bind (fun q91 => (if (q91.1 : Int32) = 0 then ((F_X12_is n q91.2 15).bind (fun q126 => (if (q126.1 : Int32) = 0 then (if (0 : Int32) = 0 then (if ((hi q126.2 226 12) : Int32) ≤ (l1 : Int32) then ((F_X12_comesOut n q126.2 0).bind (fun q155 => some q155)) else ((F_X12_fail n q126.2 1).bind (fun q157 => ((F_X12_comesOut n q157 0).bind (fun q159 => some q159))))) else ((F_X12_is n q126.2 10).bind (fun q130 => (if (q130.1 : Int32) = 0 then ((F_X12_is n q130.2 15).bind (fun q139 => (if (q139.1 : Int32) = 0 then ((F_X12_comesOut n q139.2 0).bind (fun q142 => (if ixOK (hi q142 226 11) 403 = true then (if ixOK (hi q142 226 49) 64 = true then ((F_X12_goesOn n (wrI (wrI q142 259 (Int32.toNatClampNeg (hi q142 226 49)) (hi q142 229 (Int32.toNatClampNeg (hi q142 226 11)))) 226 49 ((hi (wrI q142 259 (Int32.toNatClampNeg (hi q142 226 49)) (hi q142 229 (Int32.toNatClampNeg (hi q142 226 11)))) 226 49) + 1))).bind (fun q146 => W_X12_expression n 12 q146  l1 0)) else none) else none))) else ((F_X12_comesOut n q139.2 1).bind (fun q148 => (if ixOK (hi q148 226 11) 403 = true then (if ixOK (hi q148 226 49) 64 = true then ((F_X12_goesOn n (wrI (wrI q148 259 (Int32.toNatClampNeg (hi q148 226 49)) (hi q148 229 (Int32.toNatClampNeg (hi q148 226 11)))) 226 49 ((hi (wrI q148 259 (Int32.toNatClampNeg (hi q148 226 49)) (hi q148 229 (Int32.toNatClampNeg (hi q148 226 11)))) 226 49) + 1))).bind (fun q152 => W_X12_expression n 12 q152  l1 0)) else none) else none)))))) else ((F_X12_comesOut n q130.2 1).bind (fun q133 => (if ixOK (hi q133 226 11) 403 = true then (if ixOK (hi q133 226 49) 64 = true then ((F_X12_goesOn n (wrI (wrI q133 259 (Int32.toNatClampNeg (hi q133 226 49)) (hi q133 229 (Int32.toNatClampNeg (hi q133 226 11)))) 226 49 ((hi (wrI q133 259 (Int32.toNatClampNeg (hi q133 226 49)) (hi q133 229 (Int32.toNatClampNeg (hi q133 226 11)))) 226 49) + 1))).bind (fun q137 => W_X12_expression n 12 q137  l1 0)) else none) else none))))))) else (if (1 : Int32) = 0 then (if ((hi q126.2 226 12) : Int32) ≤ (l1 : Int32) then ((F_X12_comesOut n q126.2 0).bind (fun q187 => some q187)) else ((F_X12_fail n q126.2 1).bind (fun q189 => ((F_X12_comesOut n q189 0).bind (fun q191 => some q191))))) else ((F_X12_is n q126.2 10).bind (fun q162 => (if (q162.1 : Int32) = 0 then ((F_X12_is n q162.2 15).bind (fun q171 => (if (q171.1 : Int32) = 0 then ((F_X12_comesOut n q171.2 0).bind (fun q174 => (if ixOK (hi q174 226 11) 403 = true then (if ixOK (hi q174 226 49) 64 = true then ((F_X12_goesOn n (wrI (wrI q174 259 (Int32.toNatClampNeg (hi q174 226 49)) (hi q174 229 (Int32.toNatClampNeg (hi q174 226 11)))) 226 49 ((hi (wrI q174 259 (Int32.toNatClampNeg (hi q174 226 49)) (hi q174 229 (Int32.toNatClampNeg (hi q174 226 11)))) 226 49) + 1))).bind (fun q178 => W_X12_expression n 12 q178  l1 1)) else none) else none))) else ((F_X12_comesOut n q171.2 1).bind (fun q180 => (if ixOK (hi q180 226 11) 403 = true then (if ixOK (hi q180 226 49) 64 = true then ((F_X12_goesOn n (wrI (wrI q180 259 (Int32.toNatClampNeg (hi q180 226 49)) (hi q180 229 (Int32.toNatClampNeg (hi q180 226 11)))) 226 49 ((hi (wrI q180 259 (Int32.toNatClampNeg (hi q180 226 49)) (hi q180 229 (Int32.toNatClampNeg (hi q180 226 11)))) 226 49) + 1))).bind (fun q184 => W_X12_expression n 12 q184  l1 1)) else none) else none)))))) else ((F_X12_comesOut n q162.2 1).bind (fun q165 => (if ixOK (hi q165 226 11) 403 = true then (if ixOK (hi q165 226 49) 64 = true then ((F_X12_goesOn n (wrI (wrI q165 259 (Int32.toNatClampNeg (hi q165 226 49)) (hi q165 229 (Int32.toNatClampNeg (hi q165 226 11)))) 226 49 ((hi (wrI q165 259 (Int32.toNatClampNeg (hi q165 226 49)) (hi q165 229 (Int32.toNatClampNeg (hi q165 226 11)))) 226 49) + 1))).bind (fun q169 => W_X12_expression n 12 q169  l1 1)) else none) else none)))))))))) else (if (1 : Int32) = 0 then (if ((hi q91.2 226 12) : Int32) ≤ (l1 : Int32) then ((F_X12_comesOut n q91.2 0).bind (fun q120 => some q120)) else ((F_X12_fail n q91.2 1).bind (fun q122 => ((F_X12_comesOut n q122 0).bind (fun q124 => some q124))))) else ((F_X12_is n q91.2 10).bind (fun q95 => (if (q95.1 : Int32) = 0 then ((F_X12_is n q95.2 15).bind (fun q104 => (if (q104.1 : Int32) = 0 then ((F_X12_comesOut n q104.2 0).bind (fun q107 => (if ixOK (hi q107 226 11) 403 = true then (if ixOK (hi q107 226 49) 64 = true then ((F_X12_goesOn n (wrI (wrI q107 259 (Int32.toNatClampNeg (hi q107 226 49)) (hi q107 229 (Int32.toNatClampNeg (hi q107 226 11)))) 226 49 ((hi (wrI q107 259 (Int32.toNatClampNeg (hi q107 226 49)) (hi q107 229 (Int32.toNatClampNeg (hi q107 226 11)))) 226 49) + 1))).bind (fun q111 => W_X12_expression n 12 q111  l1 1)) else none) else none))) else ((F_X12_comesOut n q104.2 1).bind (fun q113 => (if ixOK (hi q113 226 11) 403 = true then (if ixOK (hi q113 226 49) 64 = true then ((F_X12_goesOn n (wrI (wrI q113 259 (Int32.toNatClampNeg (hi q113 226 49)) (hi q113 229 (Int32.toNatClampNeg (hi q113 226 11)))) 226 49 ((hi (wrI q113 259 (Int32.toNatClampNeg (hi q113 226 49)) (hi q113 229 (Int32.toNatClampNeg (hi q113 226 11)))) 226 49) + 1))).bind (fun q117 => W_X12_expression n 12 q117  l1 1)) else none) else none)))))) else ((F_X12_comesOut n q95.2 1).bind (fun q98 => (if ixOK (hi q98 226 11) 403 = true then (if ixOK (hi q98 226 49) 64 = true then ((F_X12_goesOn n (wrI (wrI q98 259 (Int32.toNatClampNeg (hi q98 226 49)) (hi q98 229 (Int32.toNatClampNeg (hi q98 226 11)))) 226 49 ((hi (wrI q98 259 (Int32.toNatClampNeg (hi q98 226 49)) (hi q98 229 (Int32.toNatClampNeg (hi q98 226 11)))) 226 49) + 1))).bind (fun q102 => W_X12_expression n 12 q102  l1 1)) else none) else none)))))))))) else (if (1 : Int32) = 0 then (if ((hi q56.2 226 12) : Int32) ≤ (l1 : Int32) then ((F_X12_comesOut n q56.2 0).bind (fun q85 => some q85)) else ((F_X12_fail n q56.2 1).bind (fun q87 => ((F_X12_comesOut n q87 0).bind (fun q89 => some q89))))) else ((F_X12_is n q56.2 10).bind (fun q60 => (if (q60.1 : Int32) = 0 then ((F_X12_is n q60.2 15).bind (fun q69 => (if (q69.1 : Int32) = 0 then ((F_X12_comesOut n q69.2 0).bind (fun q72 => (if ixOK (hi q72 226 11) 403 = true then (if ixOK (hi q72 226 49) 64 = true then ((F_X12_goesOn n (wrI (wrI q72 259 (Int32.toNatClampNeg (hi q72 226 49)) (hi q72 229 (Int32.toNatClampNeg (hi q72 226 11)))) 226 49 ((hi (wrI q72 259 (Int32.toNatClampNeg (hi q72 226 49)) (hi q72 229 (Int32.toNatClampNeg (hi q72 226 11)))) 226 49) + 1))).bind (fun q76 => W_X12_expression n 12 q76  l1 1)) else none) else none))) else ((F_X12_comesOut n q69.2 1).bind (fun q78 => (if ixOK (hi q78 226 11) 403 = true then (if ixOK (hi q78 226 49) 64 = true then ((F_X12_goesOn n (wrI (wrI q78 259 (Int32.toNatClampNeg (hi q78 226 49)) (hi q78 229 (Int32.toNatClampNeg (hi q78 226 11)))) 226 49 ((hi (wrI q78 259 (Int32.toNatClampNeg (hi q78 226 49)) (hi q78 229 (Int32.toNatClampNeg (hi q78 226 11)))) 226 49) + 1))).bind (fun q82 => W_X12_expression n 12 q82  l1 1)) else none) else none)))))) else ((F_X12_comesOut n q60.2 1).bind (fun q63 => (if ixOK (hi q63 226 11) 403 = true then (if ixOK (hi q63 226 49) 64 = true then ((F_X12_goesOn n (wrI (wrI q63 259 (Int32.toNatClampNeg (hi q63 226 49)) (hi q63 229 (Int32.toNatClampNeg (hi q63 226 11)))) 226 49 ((hi (wrI q63 259 (Int32.toNatClampNeg (hi q63 226 49)) (hi q63 229 (Int32.toNatClampNeg (hi q63 226 11)))) 226 49) + 1))).bind (fun q67 => W_X12_expression n 12 q67  l1 1)) else none) else none)))))))))) else (if (1 : Int32) = 0 then (if ((hi q21.2 226 12) : Int32) ≤ (l1 : Int32) then ((F_X12_comesOut n q21.2 0).bind (fun q50 => some q50)) else ((F_X12_fail n q21.2 1).bind (fun q52 => ((F_X12_comesOut n q52 0).bind (fun q54 => some q54))))) else ((F_X12_is n q21.2 10).bind (fun q25 => (if (q25.1 : Int32) = 0 then ((F_X12_is n q25.2 15).bind (fun q34 => (if (q34.1 : Int32) = 0 then ((F_X12_comesOut n q34.2 0).bind (fun q37 => (if ixOK (hi q37 226 11) 403 = true then (if ixOK (hi q37 226 49) 64 = true then ((F_X12_goesOn n (wrI (wrI q37 259 (Int32.toNatClampNeg (hi q37 226 49)) (hi q37 229 (Int32.toNatClampNeg (hi q37 226 11)))) 226 49 ((hi (wrI q37 259 (Int32.toNatClampNeg (hi q37 226 49)) (hi q37 229 (Int32.toNatClampNeg (hi q37 226 11)))) 226 49) + 1))).bind (fun q41 => W_X12_expression n 12 q41  l1 1)) else none) else none))) else ((F_X12_comesOut n q34.2 1).bind (fun q43 => (if ixOK (hi q43 226 11) 403 = true then (if ixOK (hi q43 226 49) 64 = true then ((F_X12_goesOn n (wrI (wrI q43 259 (Int32.toNatClampNeg (hi q43 226 49)) (hi q43 229 (Int32.toNatClampNeg (hi q43 226 11)))) 226 49 ((hi (wrI q43 259 (Int32.toNatClampNeg (hi q43 226 49)) (hi q43 229 (Int32.toNatClampNeg (hi q43 226 11)))) 226 49) + 1))).bind (fun q47 => W_X12_expression n 12 q47  l1 1)) else none) else none)))))) else ((F_X12_comesOut n q25.2 1).bind (fun q28 => (if ixOK (hi q28 226 11) 403 = true then (if ixOK (hi q28 226 49) 64 = true then ((F_X12_goesOn n (wrI (wrI q28 259 (Int32.toNatClampNeg (hi q28 226 49)) (hi q28 229 (Int32.toNatClampNeg (hi q28 226 11)))) 226 49 ((hi (wrI q28 259 (Int32.toNatClampNeg (hi q28 226 49)) (hi q28 229 (Int32.toNatClampNeg (hi q28 226 11)))) 226 49) + 1))).bind (fun q32 => W_X12_expression n 12 q32  l1 1)) else none) else none))))))))))

theorem endF (S : rT pl h f t) (fz : f ≠ 0) {l1 : Int32} : Pc (if ((hi h 226 12) : Int32) ≤ (l1 : Int32) then ((F_X12_comesOut n h 0).bind (fun q155 => some q155)) else ((F_X12_fail n h 1).bind (fun q157 => ((F_X12_comesOut n q157 0).bind (fun q159 => some q159))))) (fun q => frE h q ∧ rT pl q f t) := by
  unfold F_X12_comesOut
  refine Pc.ite (fun _ => ?_) (fun _ => ?_)
  · exact Pc.bind (pr_comesOut n h) (fun q hq => Pc.ret ⟨hq.e, hq.st S⟩)
  · refine Pc.bind (pr_failF S fz) (fun q hq => ?_)
    rw [hq]
    exact Pc.bind (pr_comesOut n h) (fun q hq => Pc.ret ⟨hq.e, hq.st S⟩)
theorem pr_mrF (S : rT pl h f t) (fz : f ≠ 0) {l1 : Int32} : Pc (mrT n h l1) (fun q => frE h q ∧ rT pl q f t) := by
  have f0 := lit_0
  unfold mrT
  refine Pc.bind (pr_isF S fz) (fun q1 h1 => ?_)
  rw [h1.1]
  refine Pc.eq (fun _ => ?_) (fun c => absurd (h1.2.trans f0.symm) c)
  refine Pc.bind (pr_isF S fz) (fun q2 h2 => ?_)
  rw [h2.1]
  refine Pc.eq (fun _ => ?_) (fun c => absurd (h2.2.trans f0.symm) c)
  refine Pc.bind (pr_isF S fz) (fun q3 h3 => ?_)
  rw [h3.1]
  refine Pc.eq (fun _ => ?_) (fun c => absurd (h3.2.trans f0.symm) c)
  refine Pc.bind (pr_isF S fz) (fun q4 h4 => ?_)
  rw [h4.1]
  refine Pc.eq (fun _ => ?_) (fun c => absurd (h4.2.trans f0.symm) c)
  refine Pc.pos rfl ?_
  exact endF S fz
/-- where a sum comes to -/
def exP (N : Nat) (kd pl : Nat → Int) (u : Bool) (d t : Nat) (h q : Hp) : Prop := frE h q ∧ ∃ f' t', rT pl q f' t' ∧ tI2 N t' ∧ ExR kd u d t (f', t') ∧ (f' = 0 → (hi q 226 12).toInt = 0)
theorem pr_mr (X : TX N kd pl vl) (R : RT N kd pl vl h) (T : tI2 N t) (S : rT pl h 0 t) {d : Nat} (od : (hi h 226 12).toInt = (d : Int)) {l1 : Int32} (b0 : l1.toInt = 0) (rp : d ≠ 0 → kd t ≠ 41) (kk : ∀ q f' t', frE h q → rT pl q f' t' → hi q 226 12 = hi h 226 12 → f' = (gnS t).1 → t' = (gnS t).2 → isOp (kd t) → Pc (W_X12_expression n 12 q l1 1) (exP N kd pl false d t h)) : Pc (mrT n h l1) (exP N kd pl false d t h) := by
  have f0 := lit_0
  have f1 := lit_1
  have one (hop : isOp (kd t)) (s : Int32) : Pc (opG n h s l1) (exP N kd pl false d t h) := by
    unfold opG F_X12_comesOut
    refine Pc.bind (pr_comesOut n h) (fun q hq => ?_)
    refine Pc.chk (fun _ => Pc.chk (fun _ => ?_))
    generalize eg : wrI (wrI q 259 _ _) 226 49 _ = g
    have fg : frN h g := by
      refine hq.tr ⟨fun a k n1 n2 n3 n4 => ?_, fun a k => ?_⟩
      · rw [← eg, hi_wrI, if_neg (by omega), hi_wrI, if_neg (by omega)]
      · rw [← eg, hl_wrI, hl_wrI]
    refine Pc.bind (pr_goesOn' (R.cg fg.e.rt) T (fg.st S)) (fun r hr => ?_)
    exact kk r _ _ (fg.e.tr hr.1.e) hr.2 (hr.1.op.trans fg.op) rfl rfl hop
  have two (hop : isOp (kd t)) : Pc (opD n h l1) (exP N kd pl false d t h) := by
    unfold opD
    refine Pc.bind (pr_is X R T S 42 (by decide) (by decide)) (fun q1 h1 => ?_)
    rw [h1.1]
    refine Pc.eq (fun _ => ?_) (fun _ => one hop 1)
    refine Pc.bind (pr_is X R T S 47 (by decide) (by decide)) (fun q2 h2 => ?_)
    rw [h2.1]
    exact Pc.eq (fun _ => one hop 0) (fun _ => one hop 1)
  unfold mrT
  refine Pc.bind (pr_is X R T S 43 (by decide) (by decide)) (fun q1 h1 => ?_)
  rw [h1.1]
  refine Pc.eq (fun c1 => ?_) (fun c1 => Pc.neg (by decide) (two (by have := (h1.2.mp (by omega)).2; unfold isOp; omega)))
  refine Pc.bind (pr_is X R T S 45 (by decide) (by decide)) (fun q2 h2 => ?_)
  rw [h2.1]
  refine Pc.eq (fun c2 => ?_) (fun c2 => Pc.neg (by decide) (two (by have := (h2.2.mp (by omega)).2; unfold isOp; omega)))
  refine Pc.bind (pr_is X R T S 42 (by decide) (by decide)) (fun q3 h3 => ?_)
  rw [h3.1]
  refine Pc.eq (fun c3 => ?_) (fun c3 => Pc.neg (by decide) (two (by have := (h3.2.mp (by omega)).2; unfold isOp; omega)))
  refine Pc.bind (pr_is X R T S 47 (by decide) (by decide)) (fun q4 h4 => ?_)
  rw [h4.1]
  refine Pc.eq (fun c4 => ?_) (fun c4 => Pc.neg (by decide) (two (by have := (h4.2.mp (by omega)).2; unfold isOp; omega)))
  have no : ¬ isOp (kd t) := by
    intro z
    unfold isOp at z
    rcases z with z | z | z | z
    · exact h3.2.mpr ⟨rfl, z⟩ (c3.trans f0)
    · exact h1.2.mpr ⟨rfl, z⟩ (c1.trans f0)
    · exact h2.2.mpr ⟨rfl, z⟩ (c2.trans f0)
    · exact h4.2.mpr ⟨rfl, z⟩ (c4.trans f0)
  refine Pc.pos rfl ?_
  unfold F_X12_comesOut
  refine Pc.le (fun c => ?_) (fun c => ?_)
  · have dz : d = 0 := by omega
    subst dz
    exact Pc.bind (pr_comesOut n h) (fun q hq => Pc.ret ⟨hq.e, 0, t, hq.st S, T, ExR.fin no, fun _ => by rw [hq.op]; exact od⟩)
  · have dn : d ≠ 0 := by omega
    refine Pc.bind (pr_fail R T S (by decide)) (fun q hq => ?_)
    have z := hq.2
    rw [if_pos rfl, f1] at z
    exact Pc.bind (pr_comesOut n q) (fun r hr => Pc.ret ⟨hq.1.e.tr hr.e, 1, t, hr.st z, T, ExR.no no (rp dn) dn, fun y => absurd y (show ¬ (1 : Int) = 0 by decide)⟩)
theorem pr_12F (S : rT pl h f t) (fz : f ≠ 0) {l1 l2 : Int32} : Pc (W_X12_expression n 12 h l1 l2) (fun q => q = h) := by
  have f0 := lit_0
  cases n with
  | zero => exact Pc.no
  | succ n =>
    rw [u_X12_expression]
    refine Pc.pos rfl ?_
    refine Pc.ite (fun _ => Pc.ret rfl) (fun _ => ?_)
    exact Pc.eq (fun c => by have := S.2.1; exfalso; omega) (fun _ => Pc.ret rfl)
theorem pr_unitF (S : rT pl h f t) (fz : f ≠ 0) : Pc (F_X12_unit n h) (fun q => q = h) := by
  have f0 := lit_0
  unfold F_X12_unit
  refine Pc.bind (pr_isF S fz) (fun q1 h1 => ?_)
  rw [h1.1]
  refine Pc.eq (fun _ => ?_) (fun c => absurd (h1.2.trans f0.symm) c)
  refine Pc.eq (fun c => by have := S.2.1; exfalso; omega) (fun _ => ?_)
  exact Pc.bind (pr_failF S fz) (fun q hq => Pc.ret hq)
theorem pr_23F (S : rT pl h f t) (fz : f ≠ 0) {l1 l2 : Int32} : Pc (W_X12_expression n 23 h l1 l2) (fun q => q = h) := by
  have f0 := lit_0
  cases n with
  | zero => exact Pc.no
  | succ n =>
    rw [u_X12_expression]
    refine Pc.neg (by decide) (Pc.pos rfl ?_)
    refine Pc.bind (pr_isF S fz) (fun q1 h1 => ?_)
    rw [h1.1]
    refine Pc.eq (fun _ => ?_) (fun c => absurd (h1.2.trans f0.symm) c)
    refine Pc.bind (pr_unitF S fz) (fun q hq => ?_)
    rw [hq]
    exact Pc.le (fun c => by have := S.2.1; have := S.1; exfalso; omega) (fun _ => Pc.ret rfl)
theorem pr_96F (S : rT pl h f t) (fz : f ≠ 0) {l1 l2 : Int32} : Pc (W_X12_expression n 96 h l1 l2) (fun q => frE h q ∧ rT pl q f t) := by
  have f0 := lit_0
  cases n with
  | zero => exact Pc.no
  | succ n =>
    rw [u_X12_expression]
    refine Pc.neg (by decide) (Pc.neg (by decide) (Pc.pos rfl ?_))
    refine Pc.bind (pr_isF S fz) (fun q1 h1 => ?_)
    rw [h1.1]
    refine Pc.eq (fun _ => ?_) (fun c => absurd (h1.2.trans f0.symm) c)
    exact pr_mrF S fz
theorem exP.pre {u u' : Bool} {d d' t1 : Nat} {q : Hp} (a : frE h h') (c : ∀ r, ExR kd u' d' t1 r → ExR kd u d t r) (b : exP N kd pl u' d' t1 h' q) : exP N kd pl u d t h q := by
  obtain ⟨b1, f', t', b2, b3, b4, b5⟩ := b
  exact ⟨a.tr b1, f', t', b2, b3, c _ b4, b5⟩
set_option maxHeartbeats 4000000 in
theorem pr_exL (X : TX N kd pl vl) {l1 : Int32} (b0 : l1.toInt = 0) : ∀ n : Nat, (∀ (h : Hp) (d t : Nat), RT N kd pl vl h → tI2 N t → rT pl h 0 t → (hi h 226 12).toInt = (d : Int) → d ≤ 6 → Pc (W_X12_expression n 12 h l1 1) (exP N kd pl true d t h)) ∧ (∀ (h : Hp) (l2 : Int32) (d t : Nat), RT N kd pl vl h → tI2 N t → rT pl h 0 t → (hi h 226 12).toInt = (d : Int) → d ≤ 6 → Pc (W_X12_expression n 23 h l1 l2) (exP N kd pl true d t h)) ∧ (∀ (h : Hp) (l2 : Int32) (d t : Nat), RT N kd pl vl h → tI2 N t → rT pl h 0 t → (hi h 226 12).toInt = (d : Int) → d ≤ 6 → Pc (W_X12_expression n 96 h l1 l2) (exP N kd pl false d t h)) := by
  have f0 := lit_0
  have f1 := lit_1
  have f2 := lit_2
  have f6 := lit_6
  have z1 : (1 : Int) ≠ 0 := by decide
  have z2 : (2 : Int) ≠ 0 := by decide
  intro n
  induction n with
  | zero => exact ⟨fun _ _ _ _ _ _ _ _ => Pc.no, fun _ _ _ _ _ _ _ _ _ => Pc.no, fun _ _ _ _ _ _ _ _ _ => Pc.no⟩
  | succ n ih =>
    obtain ⟨i12, i23, i96⟩ := ih
    refine ⟨fun h d t R T S od d6 => ?_, fun h l2 d t R T S od d6 => ?_, fun h l2 d t R T S od d6 => ?_⟩
    · rw [u_X12_expression]
      refine Pc.pos rfl ?_
      refine Pc.neg (by decide) ?_
      exact Pc.eq (fun _ => i23 h _ d t R T S od d6) (fun c => by have := S.2.1; exfalso; omega)
    · rw [u_X12_expression]
      refine Pc.neg (by decide) (Pc.pos rfl ?_)
      refine Pc.bind (pr_is X R T S 40 (by decide) (by decide)) (fun q3 h3 => ?_)
      rw [h3.1]
      refine Pc.eq (fun c => ?_) (fun c => ?_)
      · have n4 : kd t ≠ 40 := fun z => h3.2.mpr ⟨rfl, z⟩ (c.trans f0)
        refine Pc.bind (pr_unit X R T S) (fun q hq => ?_)
        obtain ⟨u1, u2, u3⟩ := hq
        rcases u3 with ⟨hu, s1⟩ | ⟨nu, s1⟩
        · have T1 := gn_in X T (by unfold isUn at hu; omega)
          have g1 := s1.2.1
          unfold gnS at s1 g1 T1
          by_cases c4 : t < 400
          · rw [if_pos c4] at s1 g1 T1
            refine Pc.le (fun _ => ?_) (fun c5 => by exfalso; have g1' : (hi q 226 13).toInt = 0 := g1; omega)
            exact (i96 q l2 d (t + 1) (R.cg u1.rt) T1 s1 (by rw [u2]; exact od) d6).mono (fun r hr => exP.pre u1 (fun y a => a.un hu c4) hr)
          · rw [if_neg c4] at s1 g1 T1
            refine Pc.le (fun c5 => by exfalso; have g1' : (hi q 226 13).toInt = 2 := g1; omega) (fun _ => Pc.ret ⟨u1, 2, t, s1, T, ExR.unR hu c4, fun y => absurd y z2⟩)
        · have g1 := s1.2.1
          refine Pc.le (fun c5 => by exfalso; omega) (fun _ => Pc.ret ⟨u1, 1, t, s1, T, ExR.bad nu n4, fun y => absurd y z1⟩)
      · have e4 : kd t = 40 := (h3.2.mp (by omega)).2
        refine Pc.eq (fun c6 => ?_) (fun c6 => ?_)
        · refine Pc.bind (pr_fail R T S (by decide)) (fun q13 h13 => ?_)
          have s13 := h13.2
          rw [if_pos rfl, f2] at s13
          generalize eg : wrI q13 226 12 _ = g
          have fg : frE q13 g := ⟨fun a k n1 n2 n3 n4 => by rw [← eg, hi_wrI, if_neg (by omega)], fun a k => by rw [← eg, hl_wrI]⟩
          have sg : rT pl g 2 t := by
            unfold rT
            rw [← eg, hi_wrI, if_neg (by decide), hi_wrI, if_neg (by decide), hi_wrI, if_neg (by decide)]
            exact s13
          have eg1 := h13.1.e.tr fg
          refine Pc.bind (pr_goesOnF (R.cg eg1.rt) T z2 sg) (fun q15 h15 => ?_)
          refine Pc.chk (fun _ => ?_)
          generalize ek : wrI (wrI q15 259 _ _) 226 49 _ = k
          have fk : frN q15 k := by
            refine ⟨fun a z n1 n2 n3 n4 => ?_, fun a z => ?_⟩
            · rw [← ek, hi_wrI, if_neg (by omega), hi_wrI, if_neg (by omega)]
            · rw [← ek, hl_wrI, hl_wrI]
          refine (pr_23F (fk.st h15.2) z2).mono (fun r hr => ?_)
          rw [hr]
          exact ⟨(eg1.tr h15.1.e).tr fk.e, 2, t, fk.st h15.2, T, ExR.lpR e4 (Or.inl (by omega)), fun y => absurd y z2⟩
        · have a1 := adT (hi h 226 12) 1 (by omega) (by omega)
          generalize eg : wrI h 226 12 _ = g
          have fg : frE h g := ⟨fun a k n1 n2 n3 n4 => by rw [← eg, hi_wrI, if_neg (by omega)], fun a k => by rw [← eg, hl_wrI]⟩
          have og : hi g 226 12 = hi h 226 12 + 1 := hiE eg
          have sg : rT pl g 0 t := by
            unfold rT
            rw [← eg, hi_wrI, if_neg (by decide), hi_wrI, if_neg (by decide), hi_wrI, if_neg (by decide)]
            exact S
          refine Pc.bind (pr_goesOn' (R.cg fg.rt) T sg) (fun q10 h10 => ?_)
          refine Pc.chk (fun _ => ?_)
          generalize ek : wrI (wrI q10 259 _ _) 226 49 _ = k
          have fk : frN q10 k := by
            refine ⟨fun a z n1 n2 n3 n4 => ?_, fun a z => ?_⟩
            · rw [← ek, hi_wrI, if_neg (by omega), hi_wrI, if_neg (by omega)]
            · rw [← ek, hl_wrI, hl_wrI]
          have fa := (fg.tr h10.1.e).tr fk.e
          have s1 := fk.st h10.2
          have T1 := gn_in X T (by omega)
          unfold gnS at s1 T1
          by_cases c4 : t < 400
          · rw [if_pos c4] at s1 T1
            refine (i23 k l2 (d + 1) (t + 1) (R.cg fa.rt) T1 s1 (by rw [fk.op, h10.1.op, og]; omega) (by omega)).mono (fun r hr => exP.pre fa (fun y a => a.lp e4 (by omega) c4) hr)
          · rw [if_neg c4] at s1 T1
            refine (pr_23F s1 z2).mono (fun r hr => ?_)
            rw [hr]
            exact ⟨fa, 2, t, s1, T, ExR.lpR e4 (Or.inr c4), fun y => absurd y z2⟩
    · have kk : ∀ q f' t', frE h q → rT pl q f' t' → hi q 226 12 = hi h 226 12 → f' = (gnS t).1 → t' = (gnS t).2 → isOp (kd t) → Pc (W_X12_expression n 12 q l1 1) (exP N kd pl false d t h) := by
        intro q f' t' x1 x2 x3 x4 x5 hop
        subst x4
        subst x5
        have T1 := gn_in X T (by unfold isOp at hop; omega)
        unfold gnS at x2 T1
        by_cases c4 : t < 400
        · rw [if_pos c4] at x2 T1
          exact (i12 q d (t + 1) (R.cg x1.rt) T1 x2 (by rw [x3]; exact od) d6).mono (fun r hr => exP.pre x1 (fun y a => a.op hop c4) hr)
        · rw [if_neg c4] at x2 T1
          refine (pr_12F x2 z2).mono (fun r hr => ?_)
          rw [hr]
          exact ⟨x1, 2, t, x2, T, ExR.opR hop c4, fun y => absurd y z2⟩
      rw [u_X12_expression]
      refine Pc.neg (by decide) (Pc.neg (by decide) (Pc.pos rfl ?_))
      refine Pc.bind (pr_is X R T S 41 (by decide) (by decide)) (fun q18 h18 => ?_)
      rw [h18.1]
      refine Pc.eq (fun c => ?_) (fun c => ?_)
      · exact pr_mr X R T S od b0 (fun _ z => h18.2.mpr ⟨rfl, z⟩ (c.trans f0)) kk
      · have e1 : kd t = 41 := (h18.2.mp (by omega)).2
        refine Pc.le (fun c2 => pr_mr X R T S od b0 (fun dn => by exfalso; omega) kk) (fun c2 => ?_)
        unfold F_X12_comesOut
        refine Pc.bind (pr_comesOut n h) (fun q366 h366 => ?_)
        have o3 := h366.op
        have s3 := sbT (hi h 226 12) 1 (by omega) (by omega)
        have e12 (v : Int32) : hi (wrI q366 226 49 v) 226 12 = hi h 226 12 := by rw [hi_wrI, if_neg (by decide)]; exact o3
        rw [e12]
        generalize eg : wrI (wrI q366 226 49 _) 226 12 _ = g
        have fg : frE q366 g := by
          refine ⟨fun a k n1 n2 n3 n4 => ?_, fun a k => ?_⟩
          · rw [← eg, hi_wrI, if_neg (by omega), hi_wrI, if_neg (by omega)]
          · rw [← eg, hl_wrI, hl_wrI]
        have og : hi g 226 12 = hi h 226 12 - 1 := hiE eg
        have S3 := h366.st S
        have sg : rT pl g 0 t := by
          unfold rT
          rw [← eg, hi_wrI, if_neg (by decide), hi_wrI, if_neg (by decide), hi_wrI, if_neg (by decide), hi_wrI, if_neg (by decide), hi_wrI, if_neg (by decide), hi_wrI, if_neg (by decide)]
          exact S3
        have fa := h366.e.tr fg
        refine Pc.bind (pr_goesOn' (R.cg fa.rt) T sg) (fun q368 h368 => ?_)
        have s1 := h368.2
        have T1 := gn_in X T (by omega)
        unfold gnS at s1 T1
        by_cases c4 : t < 400
        · rw [if_pos c4] at s1 T1
          refine (i96 q368 l2 (d - 1) (t + 1) (R.cg (fa.tr h368.1.e).rt) T1 s1 (by rw [h368.1.op, og]; omega) (by omega)).mono (fun r hr => exP.pre (fa.tr h368.1.e) (fun y a => a.rp e1 (by omega) c4) hr)
        · rw [if_neg c4] at s1 T1
          refine (pr_96F s1 z2).mono (fun r hr => ?_)
          exact ⟨(fa.tr h368.1.e).tr hr.1, 2, t, hr.2, T, ExR.rpR e1 (by omega) c4, fun y => absurd y z2⟩
theorem pr_sum (X : TX N kd pl vl) (R : RT N kd pl vl h) (T : tI2 N t) (S : rT pl h f t) (od : f = 0 → (hi h 226 12).toInt = 0) : Pc (F_X12_expression n h) (fun q => frE h q ∧ ∃ f' t', rT pl q f' t' ∧ tI2 N t' ∧ sumR kd f t f' t' ∧ (f' = 0 → (hi q 226 12).toInt = 0)) := by
  unfold F_X12_expression
  generalize eg : wrI h 226 49 0 = g
  have fg : frN h g := ⟨fun a k n1 n2 n3 n4 => by rw [← eg, hi_wrI, if_neg (by omega)], fun a k => by rw [← eg, hl_wrI]⟩
  have sg := fg.st S
  by_cases fz : f = 0
  · subst fz
    have o0 := od rfl
    refine ((pr_exL X (l1 := hi g 226 12) (by rw [fg.op]; exact o0) n).1 g 0 t (R.cg fg.e.rt) T sg (by rw [fg.op]; exact o0) (by omega)).mono (fun q hq => ?_)
    obtain ⟨b1, f', t', b2, b3, b4, b5⟩ := hq
    exact ⟨fg.e.tr b1, f', t', b2, b3, ⟨fun z => absurd rfl z, fun _ => b4⟩, b5⟩
  · refine (pr_12F sg fz).mono (fun q hq => ?_)
    rw [hq]
    exact ⟨fg.e, f, t, sg, T, ⟨fun _ => ⟨rfl, rfl⟩, fun z => absurd z fz⟩, fun z => absurd z fz⟩
end EE
