/-! LAWS: the reference -/
def frG (h h' : Hp) : Prop := (∀ a k, ¬ (250 ≤ a ∧ a ≤ 259) → ¬ (a = 226 ∧ (k = 11 ∨ k = 12 ∨ k = 13 ∨ k = 14 ∨ k = 39 ∨ k = 45 ∨ k = 49)) → hi h' a k = hi h a k) ∧ ∀ a k, hl h' a k = hl h a k
section LB
variable {N : Nat} {kd pl vl : Nat → Int} {h h' : Hp} {t : Nat} {f : Int} {n : Nat}
theorem frG.rf (h : Hp) : frG h h := ⟨fun _ _ _ _ => rfl, fun _ _ => rfl⟩
theorem frG.tr {h0 h1 h2 : Hp} (a : frG h0 h1) (b : frG h1 h2) : frG h0 h2 := ⟨fun x k n1 n2 => (b.1 x k n1 n2).trans (a.1 x k n1 n2), fun x k => (b.2 x k).trans (a.2 x k)⟩
theorem frE.g (a : frE h h') : frG h h' := ⟨fun x k n1 n2 => a.1 x k (by omega) (by omega) (by omega) (by omega), a.2⟩
theorem frQ.g (a : frQ h h') : frG h h' := a.e.g
theorem frG.rt (a : frG h h') : rtK h h' := ⟨fun k => a.1 229 k (by omega) (by omega), fun k => a.1 230 k (by omega) (by omega), fun k => a.1 231 k (by omega) (by omega)⟩
/-- a table of laws is written: where one stands is as it was -/
def frH (h h' : Hp) : Prop := (∀ a k, ¬ (250 ≤ a ∧ a ≤ 259) → ¬ (a = 226 ∧ k = 39) → hi h' a k = hi h a k) ∧ ∀ a k, hl h' a k = hl h a k
theorem frH.g (a : frH h h') : frG h h' := ⟨fun x k n1 n2 => a.1 x k n1 (by omega), a.2⟩
theorem frH.tr {h0 h1 h2 : Hp} (a : frH h0 h1) (b : frH h1 h2) : frH h0 h2 := ⟨fun x k n1 n2 => (b.1 x k n1 n2).trans (a.1 x k n1 n2), fun x k => (b.2 x k).trans (a.2 x k)⟩
theorem frH.st (a : frH h h') (S : rT pl h f t) : rT pl h' f t := by
  unfold rT
  rw [a.1 226 13 (by omega) (by omega), a.1 226 11 (by omega) (by omega), a.1 226 14 (by omega) (by omega)]
  exact S
theorem frH.op (a : frH h h') : hi h' 226 12 = hi h 226 12 := a.1 226 12 (by omega) (by omega)
theorem frH.w {x k : Nat} {v : Int32} (n : 250 ≤ x ∧ x ≤ 259) : frH h (wrI h x k v) := ⟨fun a z n1 n2 => by rw [hi_wrI, if_neg (by omega)], fun _ _ => rfl⟩
/-- a sum told into a term, or not, if there is a fault -/
def smR (N : Nat) (kd pl : Nat → Int) (f : Int) (t : Nat) (h q : Hp) : Prop := frG h q ∧ ∃ f' t', rT pl q f' t' ∧ tI2 N t' ∧ sumR kd f t f' t' ∧ (f' = 0 → (hi q 226 12).toInt = 0)
theorem pr_sum' (X : TX N kd pl vl) (R : RT N kd pl vl h) (T : tI2 N t) (S : rT pl h f t) (od : f = 0 → (hi h 226 12).toInt = 0) : Pc (F_X12_expression n h) (smR N kd pl f t h) := (pr_sum X R T S od).mono (fun q hq => ⟨hq.1.g, hq.2⟩)
theorem pr_term (X : TX N kd pl vl) (R : RT N kd pl vl h) (T : tI2 N t) (S : rT pl h f t) (od : f = 0 → (hi h 226 12).toInt = 0) : Pc (F_X12_term n h) (smR N kd pl f t h) := by
  have f0 := lit_0
  unfold F_X12_term
  refine Pc.chk (fun _ => ?_)
  generalize eg : wrI h 255 _ _ = g
  have fg : frH h g := by rw [← eg]; exact frH.w (by omega)
  have Sg := fg.st S
  have s1 := Sg.2.1
  refine Pc.eq (fun c => ?_) (fun c => ?_)
  · have fz : f = 0 := by omega
    refine Pc.bind (pr_sum' X (R.cg fg.g.rt) T Sg (fun z => by rw [fg.op]; exact od z)) (fun q hq => Pc.chk (fun _ => Pc.ret ?_))
    obtain ⟨m1, f', t', m2, m3, m4, m5⟩ := hq
    have fw : frH q (wrI (wrI q 256 (Int32.toNatClampNeg (hi q 226 39)) (hi q 226 45)) 226 39 (hi (wrI q 256 (Int32.toNatClampNeg (hi q 226 39)) (hi q 226 45)) 226 39 + 1)) := ⟨fun a z n1 n2 => by rw [hi_wrI, if_neg n2, hi_wrI, if_neg (by omega)], fun _ _ => rfl⟩
    exact ⟨(fg.g.tr m1).tr fw.g, f', t', fw.st m2, m3, m4, fun z => by rw [fw.op]; exact m5 z⟩
  · have fz : f ≠ 0 := by omega
    refine Pc.chk (fun _ => Pc.ret ?_)
    generalize ev : (hi g 226 39) = v
    have fw : frH g (wrI (wrI g 256 (Int32.toNatClampNeg v) (hi g 226 45)) 226 39 (hi (wrI g 256 (Int32.toNatClampNeg v) (hi g 226 45)) 226 39 + 1)) := ⟨fun a z n1 n2 => by rw [hi_wrI, if_neg n2, hi_wrI, if_neg (by omega)], fun _ _ => rfl⟩
    exact ⟨fg.g.tr fw.g, f, t, fw.st Sg, T, ⟨fun _ => ⟨rfl, rfl⟩, fun z => absurd z fz⟩, fun z => absurd z fz⟩
/-- a law as far as its ; -/
def lrP (N : Nat) (kd pl : Nat → Int) (i : Nat) (f : Int) (t : Nat) (h q : Hp) : Prop := frG h q ∧ ∃ f1 t1 k, lwF kd k i f t f1 t1 ∧ rT pl q (tkS kd 59 f1 t1).1 (tkS kd 59 f1 t1).2 ∧ tI2 N (tkS kd 59 f1 t1).2 ∧ ((tkS kd 59 f1 t1).1 = 0 → (hi q 226 12).toInt = 0)
theorem pr_lawEnd (X : TX N kd pl vl) {i : Nat} {l1 l2 : Int32} (R : RT N kd pl vl h) (T : tI2 N t) (S : rT pl h f t) (od : f = 0 → (hi h 226 12).toInt = 0) (ok : f = 0 → kd t ≠ 19) : Pc (if ixOK (hi h 226 39) 260 = true then ((F_X12_term n (wrI h 252 (Int32.toNatClampNeg (hi h 226 39)) 0)).bind (fun q14 => ((F_X12_must n q14 4).bind (fun q16 => (if ((hi q16 226 13) : Int32) ≤ (0 : Int32) then (if ixOK ((4 * (hi q16 226 19)) + l1) 8 = true then (if ixOK ((4 * (hi (wrI q16 250 (Int32.toNatClampNeg ((4 * (hi q16 226 19)) + l1)) l2) 226 19)) + l1) 8 = true then some (wrI (wrI q16 250 (Int32.toNatClampNeg ((4 * (hi q16 226 19)) + l1)) l2) 251 (Int32.toNatClampNeg ((4 * (hi (wrI q16 250 (Int32.toNatClampNeg ((4 * (hi q16 226 19)) + l1)) l2) 226 19)) + l1)) (hi (wrI q16 250 (Int32.toNatClampNeg ((4 * (hi q16 226 19)) + l1)) l2) 226 39)) else none) else none) else some q16))))) else none) (lrP N kd pl i f t h) := by
  refine Pc.chk (fun _ => ?_)
  generalize eg : wrI h 252 _ 0 = g
  have fg : frH h g := by rw [← eg]; exact frH.w (by omega)
  refine Pc.bind (pr_term X (R.cg fg.g.rt) T (fg.st S) (fun z => by rw [fg.op]; exact od z)) (fun q14 h14 => ?_)
  obtain ⟨m1, f1, t1, m2, m3, m4, m5⟩ := h14
  have fa := fg.g.tr m1
  refine Pc.bind (pr_must X (R.cg fa.rt) m3 m2 59 (by decide) (by decide)) (fun q16 h16 => ?_)
  have fb := fa.tr h16.1.g
  have T' := tk_in X m3 (k := 59) (f := f1) (by decide)
  have oq : (tkS kd 59 f1 t1).1 = 0 → (hi q16 226 12).toInt = 0 := fun z => by rw [h16.1.op]; exact m5 (tk_z z).1
  have lw : lwF kd 1 i f t f1 t1 := by
    by_cases fz : f = 0
    · subst fz
      exact Or.inr (Or.inl ⟨rfl, ok rfl, m4⟩)
    · exact Or.inl ⟨fz, m4.1 fz⟩
  refine Pc.ite (fun _ => ?_) (fun _ => Pc.ret ⟨fb, f1, t1, 1, lw, h16.2, T', oq⟩)
  refine Pc.chk (fun _ => Pc.chk (fun _ => Pc.ret ?_))
  generalize ew : wrI (wrI q16 250 _ l2) 251 _ _ = w
  have fw : frH q16 w := by
    rw [← ew]
    exact (frH.w (by omega)).tr (frH.w (by omega))
  exact ⟨fb.tr fw.g, f1, t1, 1, lw, fw.st h16.2, T', fun z => by rw [fw.op]; exact oq z⟩
set_option maxHeartbeats 4000000 in
theorem pr_lawL (X : TX N kd pl vl) {l1 l2 : Int32} : ∀ (n : Nat) (h : Hp) (l3 : Int32) (i : Nat) (f : Int) (t : Nat), RT N kd pl vl h → tI2 N t → rT pl h f t → (f = 0 → (hi h 226 12).toInt = 0) → l3.toInt = (i : Int) → i ≤ 4 → Pc (W_X12_tellLaw n 12 h l1 l2 l3) (lrP N kd pl i f t h) := by
  have f0 := lit_0
  have f1 := lit_1
  have f2 := lit_2
  have f4 := lit_4
  have z2 : (2 : Int) ≠ 0 := by decide
  intro n
  induction n with
  | zero => intro h l3 i f t R T S od a b; exact Pc.no
  | succ n ih =>
    intro h l3 i f t R T S od a b
    rw [u_X12_tellLaw]
    refine Pc.pos rfl ?_
    have s1 := S.2.1
    refine Pc.eq (fun c0 => ?_) (fun c0 => pr_lawEnd X R T S od (fun z => by exfalso; omega))
    have fz : f = 0 := by omega
    subst fz
    refine Pc.bind (pr_is X R T S 19 (by decide) (by decide)) (fun q10 h10 => ?_)
    rw [h10.1]
    refine Pc.eq (fun c1 => pr_lawEnd X R T S od (fun _ z => h10.2.mpr ⟨rfl, z⟩ (c1.trans f0))) (fun c1 => ?_)
    have ek : kd t = 19 := (h10.2.mp (by omega)).2
    have a1 := adT l3 1 (by omega) (by omega)
    refine Pc.eq (fun c2 => ?_) (fun c2 => ?_)
    · refine Pc.bind (pr_fail R T S (by decide)) (fun q47 h47 => ?_)
      have s47 := h47.2
      rw [if_pos rfl, f2] at s47
      have g1 := s47.2.1
      refine Pc.le (fun c3 => by exfalso; omega) (fun c3 => Pc.ret ⟨h47.1.g, 2, t, 1, Or.inr (Or.inr (Or.inl ⟨rfl, ek, by omega, rfl, rfl⟩)), ?_, ?_, fun z => ?_⟩)
      · rw [tk_f z2]; exact s47
      · rw [tk_f z2]; exact T
      · rw [tk_f z2] at z; exact absurd z z2
    · refine Pc.le (fun c3 => ?_) (fun c3 => by exfalso; omega)
      refine Pc.bind (pr_goesOn' R T S) (fun q23 h23 => ?_)
      have T1 := gn_in X T (by omega)
      have e19 : gnS t = tkS kd 19 0 t := by
        unfold gnS tkS
        rw [if_pos rfl, if_pos ek]
      have s23 := h23.2
      rw [e19] at s23 T1
      have o23 : (tkS kd 19 0 t).1 = 0 → (hi q23 226 12).toInt = 0 := fun _ => by rw [h23.1.op]; exact od rfl
      refine Pc.chk (fun _ => Pc.chk (fun _ => ?_))
      generalize eg : wrI (wrI q23 252 _ 1) 253 _ _ = g
      have fg : frH q23 g := by
        rw [← eg]
        exact (frH.w (by omega)).tr (frH.w (by omega))
      have fa := h23.1.g.tr fg.g
      refine Pc.bind (pr_sum' X (R.cg fa.rt) T1 (fg.st s23) (fun z => by rw [fg.op]; exact o23 z)) (fun q27 h27 => ?_)
      obtain ⟨m1, x1, y1, m2, m3, m4, m5⟩ := h27
      have fb := fa.tr m1
      refine Pc.bind (pr_must X (R.cg fb.rt) m3 m2 60 (by decide) (by decide)) (fun q29 h29 => ?_)
      have T2 := tk_in X m3 (k := 60) (f := x1) (by decide)
      have fc := fb.tr h29.1.g
      have o29 : (tkS kd 60 x1 y1).1 = 0 → (hi q29 226 12).toInt = 0 := fun z => by rw [h29.1.op]; exact m5 (tk_z z).1
      refine Pc.chk (fun _ => ?_)
      generalize ev : wrI q29 254 _ _ = v
      have fv : frH q29 v := by rw [← ev]; exact frH.w (by omega)
      have fd := fc.tr fv.g
      have sv := fv.st h29.2
      have ov : (tkS kd 60 x1 y1).1 = 0 → (hi v 226 12).toInt = 0 := fun z => by rw [fv.op]; exact o29 z
      -- THEN, its term, ELSE, and on
      have tail (g2 : Hp) (x2 : Int) (y2 : Nat) (fg2 : frG h g2) (s2 : rT pl g2 x2 y2) (T3 : tI2 N y2) (o2 : x2 = 0 → (hi g2 226 12).toInt = 0) (r2 : sumR kd (tkS kd 60 x1 y1).1 (tkS kd 60 x1 y1).2 x2 y2) : Pc ((F_X12_must n g2 31).bind (fun q41 => ((F_X12_term n q41).bind (fun q43 => ((F_X12_must n q43 32).bind (fun q45 => W_X12_tellLaw n 12 q45 l1 l2 (l3 + 1))))))) (lrP N kd pl i 0 t h) := by
        refine Pc.bind (pr_must X (R.cg fg2.rt) T3 s2 20 (by decide) (by decide)) (fun q41 h41 => ?_)
        have T4 := tk_in X T3 (k := 20) (f := x2) (by decide)
        have fe := fg2.tr h41.1.g
        refine Pc.bind (pr_term X (R.cg fe.rt) T4 h41.2 (fun z => by rw [h41.1.op]; exact o2 (tk_z z).1)) (fun q43 h43 => ?_)
        obtain ⟨m6, x3, y3, m7, m8, m9, m10⟩ := h43
        have ff := fe.tr m6
        refine Pc.bind (pr_must X (R.cg ff.rt) m8 m7 21 (by decide) (by decide)) (fun q45 h45 => ?_)
        have T5 := tk_in X m8 (k := 21) (f := x3) (by decide)
        have fh := ff.tr h45.1.g
        refine (ih q45 (l3 + 1) (i + 1) _ _ (R.cg fh.rt) T5 h45.2 (fun z => by rw [h45.1.op]; exact m10 (tk_z z).1) (by omega) (by omega)).mono (fun q hq => ?_)
        obtain ⟨b1, f', t', k, b2, b3, b4, b5⟩ := hq
        exact ⟨fh.tr b1, f', t', k + 1, Or.inr (Or.inr (Or.inr ⟨rfl, ek, by omega, x1, y1, x2, y2, x3, y3, m4, r2, m9, b2⟩)), b3, b4, b5⟩
      have g1 := sv.2.1
      refine Pc.eq (fun c4 => ?_) (fun c4 => ?_)
      · refine Pc.bind (pr_sum' X (R.cg fd.rt) T2 sv ov) (fun q39 h39 => ?_)
        obtain ⟨m6, x2, y2, m7, m8, m9, m10⟩ := h39
        exact tail q39 x2 y2 (fd.tr m6) m7 m8 m10 m9
      · have nz : (tkS kd 60 x1 y1).1 ≠ 0 := by omega
        exact tail v _ _ fd sv T2 ov ⟨fun _ => ⟨rfl, rfl⟩, fun z => absurd z nz⟩
theorem pr_law (X : TX N kd pl vl) {x1 : Int32} (R : RT N kd pl vl h) (T : tI2 N t) (S : rT pl h f t) (od : f = 0 → (hi h 226 12).toInt = 0) : Pc (F_X12_tellLaw n h x1) (lrP N kd pl 0 (tkS kd 61 f t).1 (tkS kd 61 f t).2 h) := by
  unfold F_X12_tellLaw
  refine Pc.bind (pr_must X R T S 61 (by decide) (by decide)) (fun q hq => ?_)
  have T1 := tk_in X T (k := 61) (f := f) (by decide)
  refine (pr_lawL X n q 0 0 _ _ (R.cg hq.1.rt) T1 hq.2 (fun z => by rw [hq.1.op]; exact od (tk_z z).1) lit_0 (by omega)).mono (fun r hr => ?_)
  obtain ⟨b1, b2⟩ := hr
  exact ⟨hq.1.g.tr b1, b2⟩
end LB
