/-! LAWS: what is one, and the class -/
/-- behind the =: ifs of them so far; the fault and where, ahead of the ; -/
def lwF (kd : Nat → Int) : Nat → Nat → Int → Nat → Int → Nat → Prop
  | 0 => fun _ _ _ _ _ => False
  | k + 1 => fun i f t f' t' => (f ≠ 0 ∧ f' = f ∧ t' = t) ∨ (f = 0 ∧ kd t ≠ 19 ∧ sumR kd 0 t f' t') ∨ (f = 0 ∧ kd t = 19 ∧ ¬ i < 4 ∧ f' = 2 ∧ t' = t) ∨ (f = 0 ∧ kd t = 19 ∧ i < 4 ∧ ∃ f1 t1 f2 t2 f3 t3, sumR kd (tkS kd 19 0 t).1 (tkS kd 19 0 t).2 f1 t1 ∧ sumR kd (tkS kd 60 f1 t1).1 (tkS kd 60 f1 t1).2 f2 t2 ∧ sumR kd (tkS kd 20 f2 t2).1 (tkS kd 20 f2 t2).2 f3 t3 ∧ lwF kd k (i + 1) (tkS kd 21 f3 t3).1 (tkS kd 21 f3 t3).2 f' t')
theorem lwF.uniq {kd : Nat → Int} : ∀ (k k' i : Nat) (f : Int) (t : Nat) (f1 : Int) (t1 : Nat) (f2 : Int) (t2 : Nat), lwF kd k i f t f1 t1 → lwF kd k' i f t f2 t2 → f1 = f2 ∧ t1 = t2 := by
  intro k
  induction k with
  | zero => intro k' i f t f1 t1 f2 t2 a b; exact False.elim a
  | succ k ih =>
    intro k' i f t f1 t1 f2 t2 a b
    cases k' with
    | zero => exact False.elim b
    | succ k' =>
      rcases a with ⟨a1, a2, a3⟩ | ⟨a1, a2, a3⟩ | ⟨a1, a2, a3, a4, a5⟩ | ⟨a1, a2, a3, x1, y1, x2, y2, x3, y3, s1, s2, s3, s4⟩
      · rcases b with ⟨b1, b2, b3⟩ | ⟨b1, -⟩ | ⟨b1, -⟩ | ⟨b1, -⟩
        · exact ⟨a2.trans b2.symm, a3.trans b3.symm⟩
        · exact absurd b1 a1
        · exact absurd b1 a1
        · exact absurd b1 a1
      · rcases b with ⟨b1, -⟩ | ⟨b1, b2, b3⟩ | ⟨b1, b2, -⟩ | ⟨b1, b2, -⟩
        · exact absurd a1 b1
        · exact a3.uniq b3
        · exact absurd b2 a2
        · exact absurd b2 a2
      · rcases b with ⟨b1, -⟩ | ⟨b1, b2, b3⟩ | ⟨b1, b2, b3, b4, b5⟩ | ⟨b1, b2, b3, -⟩
        · exact absurd a1 b1
        · exact absurd a2 b2
        · exact ⟨a4.trans b4.symm, a5.trans b5.symm⟩
        · exact absurd b3 a3
      · rcases b with ⟨b1, -⟩ | ⟨b1, b2, b3⟩ | ⟨b1, b2, b3, b4, b5⟩ | ⟨b1, b2, b3, z1, w1, z2, w2, z3, w3, r1, r2, r3, r4⟩
        · exact absurd a1 b1
        · exact absurd a2 b2
        · exact absurd a3 b3
        · obtain ⟨e1, e2⟩ := s1.uniq r1
          subst e1; subst e2
          obtain ⟨e3, e4⟩ := s2.uniq r2
          subst e3; subst e4
          obtain ⟨e5, e6⟩ := s3.uniq r3
          subst e5; subst e6
          exact ih k' _ _ _ _ _ _ _ s4 r4
section LA
variable {N : Nat} {kd pl vl : Nat → Int}
theorem frO.tr {h0 h1 h2 : Hp} (a : frO h0 h1) (b : frO h1 h2) : frO h0 h2 := ⟨fun x k n1 n2 n3 => (b.1 x k n1 n2 n3).trans (a.1 x k n1 n2 n3), fun x k => (b.2 x k).trans (a.2 x k)⟩
theorem pc_begin {n : Nat} {h : Hp} {x : Int32} : Pc (F_X4_begin n h 5 x) (fun q => frO h q) := by
  have me : frO h h := ⟨fun _ _ _ _ _ => rfl, fun _ _ => rfl⟩
  unfold F_X4_begin
  refine Pc.ite (fun _ => Pc.ret me) (fun _ => Pc.ite (fun _ => Pc.ret me) (fun _ => Pc.chk (fun _ => Pc.ret ⟨fun a k n1 n2 n3 => ?_, fun a k => rfl⟩)))
  rw [hi_wrI, if_neg (by omega)]
theorem pc_addLess {n : Nat} {h : Hp} : Pc (F_X4_addLess n h 5) (fun q => frO h q.2) := by
  unfold F_X4_addLess
  refine Pc.bind pc_add (fun q1 h1 => Pc.bind pc_add (fun q3 h3 => Pc.ret (h1.tr h3)))
theorem pc_elseHere {n : Nat} {h : Hp} {x : Int32} : Pc (F_X4_elseHere n h 5 x) (fun q => frO h q) := by
  have me : frO h h := ⟨fun _ _ _ _ _ => rfl, fun _ _ => rfl⟩
  unfold F_X4_elseHere
  refine Pc.ite (fun _ => Pc.ret me) (fun _ => Pc.ite (fun _ => Pc.ret me) (fun _ => Pc.chk (fun _ => Pc.ret ⟨fun a k n1 n2 n3 => ?_, fun a k => rfl⟩)))
  rw [hi_wrI, if_neg (by omega)]
def lcP (N : Nat) (kd : Nat → Int) (i : Nat) (f : Int) (t : Nat) (h q : Hp) : Prop := frL h q ∧ ∃ f' t' k, cS q f' t' ∧ tI2 N t' ∧ lwF kd k i f t f' t'
theorem pc_lawEnd (X : TX N kd pl vl) {h : Hp} {n : Nat} {f : Int} {t i : Nat} (C : CT N kd pl vl h) (T : tI2 N t) (S : cS h f t) (ok : f = 0 → kd t ≠ 19) : Pc ((F_X7_readSumT n h 0).bind (fun q2 => ((F_X4_add n q2 5 (-15)).bind (fun q4 => some q4)))) (lcP N kd i f t h) := by
  refine Pc.bind (pc_sum X C T S) (fun q2 h2 => ?_)
  obtain ⟨m1, f', t', m2, m3, m4⟩ := h2
  refine Pc.bind pc_add (fun q4 h4 => Pc.ret ⟨m1.tr h4.l, f', t', 1, h4.st m2, m3, ?_⟩)
  by_cases fz : f = 0
  · subst fz
    exact Or.inr (Or.inl ⟨rfl, ok rfl, m4⟩)
  · exact Or.inl ⟨fz, m4.1 fz⟩
set_option maxHeartbeats 4000000 in
theorem pc_lawL (X : TX N kd pl vl) {l1 : Int32} : ∀ (n : Nat) (h : Hp) (l2 : Int32) (i : Nat) (f : Int) (t : Nat), CT N kd pl vl h → tI2 N t → cS h f t → l2.toInt = (i : Int) → i ≤ 5 → (f = 0 → i ≤ 4) → Pc (W_X7_readLaw n 20 h l1 l2) (lcP N kd i f t h) := by
  have f0 := lit_0
  have f1 := lit_1
  have f2 := lit_2
  have f4 := lit_4
  have f19 := lit_19
  have f20 := lit_20
  have f60 := lit_60
  have l21 : (21 : Int32).toInt = 21 := by decide
  intro n
  induction n with
  | zero => intro h l2 i f t C T S a b c; exact Pc.no
  | succ n ih =>
    intro h l2 i f t C T S a b c
    rw [u_X7_readLaw]
    refine Pc.pos rfl ?_
    have s1 := S.1
    refine Pc.eq (fun c0 => ?_) (fun c0 => pc_lawEnd X C T S (fun z => by exfalso; omega))
    have fz : f = 0 := by omega
    subst fz
    unfold F_X7_kind
    refine Pc.bind (Q := fun q => q.2 = h ∧ q.1.toInt = kd t) (Pc.bind (pc_kindOf X C T S.2) (fun q hq => Pc.ret hq)) (fun q6 h6 => ?_)
    rw [h6.1]
    have v6 := h6.2
    refine Pc.eq (fun c1 => ?_) (fun c1 => pc_lawEnd X C T S (fun _ => by omega))
    have i4 := c rfl
    have a1 := adT l2 1 (by omega) (by omega)
    refine Pc.lt (fun c2 => by exfalso; omega) (fun c2 => ?_)
    -- the body, whatever the fault is by now
    have body (g : Hp) (fg : Int) (frg : frL h g) (Sg : cS g fg t) (fgi : fg = 0 → i + 1 ≤ 4) : Pc ((F_X7_take n g 19).bind (fun q19 => ((F_X7_readSumT n q19.2 0).bind (fun q21 => ((F_X7_take n q21 60).bind (fun q23 => ((F_X7_readSumT n q23.2 0).bind (fun q25 => ((F_X7_take n q25 20).bind (fun q27 => ((F_X4_addLess n q27.2 5).bind (fun q29 => ((F_X7_readSumT n q29.2 0).bind (fun q31 => ((F_X7_take n q31 21).bind (fun q33 => ((F_X4_add n q33.2 5 (-15)).bind (fun q35 => ((F_X4_elseHere n q35 5 q29.1).bind (fun q37 => W_X7_readLaw n 20 q37 l1 (l2 + 1))))))))))))))))))))) (fun q => frL h q ∧ ∃ x1 y1 x2 y2 x3 y3 f' t' k, cS q f' t' ∧ tI2 N t' ∧ sumR kd (tkS kd 19 fg t).1 (tkS kd 19 fg t).2 x1 y1 ∧ sumR kd (tkS kd 60 x1 y1).1 (tkS kd 60 x1 y1).2 x2 y2 ∧ sumR kd (tkS kd 20 x2 y2).1 (tkS kd 20 x2 y2).2 x3 y3 ∧ lwF kd k (i + 1) (tkS kd 21 x3 y3).1 (tkS kd 21 x3 y3).2 f' t') := by
      have Cg := C.cg frg.tk
      refine Pc.bind (pc_take X Cg T Sg) (fun q19 h19 => ?_)
      obtain ⟨k1, k2, -⟩ := h19
      have T1 := tk_in X T (k := (19 : Int32).toInt) (f := fg) (by rw [f19]; decide)
      rw [f19] at k2 T1
      have fr1 := frg.tr k1.l
      refine Pc.bind (pc_sum X (C.cg fr1.tk) T1 k2) (fun q21 h21 => ?_)
      obtain ⟨m1, x1, y1, m2, m3, m4⟩ := h21
      have fr2 := fr1.tr m1
      refine Pc.bind (pc_take X (C.cg fr2.tk) m3 m2) (fun q23 h23 => ?_)
      obtain ⟨k3, k4, -⟩ := h23
      have T2 := tk_in X m3 (k := (60 : Int32).toInt) (f := x1) (by rw [f60]; decide)
      rw [f60] at k4 T2
      have fr3 := fr2.tr k3.l
      refine Pc.bind (pc_sum X (C.cg fr3.tk) T2 k4) (fun q25 h25 => ?_)
      obtain ⟨m5, x2, y2, m6, m7, m8⟩ := h25
      have fr4 := fr3.tr m5
      refine Pc.bind (pc_take X (C.cg fr4.tk) m7 m6) (fun q27 h27 => ?_)
      obtain ⟨k5, k6, -⟩ := h27
      have T3 := tk_in X m7 (k := (20 : Int32).toInt) (f := x2) (by rw [f20]; decide)
      rw [f20] at k6 T3
      have fr5 := fr4.tr k5.l
      refine Pc.bind pc_addLess (fun q29 h29 => ?_)
      have fr6 := fr5.tr h29.l
      refine Pc.bind (pc_sum X (C.cg fr6.tk) T3 (h29.st k6)) (fun q31 h31 => ?_)
      obtain ⟨m9, x3, y3, m10, m11, m12⟩ := h31
      have fr7 := fr6.tr m9
      refine Pc.bind (pc_take X (C.cg fr7.tk) m11 m10) (fun q33 h33 => ?_)
      obtain ⟨k7, k8, -⟩ := h33
      have T4 := tk_in X m11 (k := (21 : Int32).toInt) (f := x3) (by rw [l21]; decide)
      rw [l21] at k8 T4
      have fr8 := fr7.tr k7.l
      refine Pc.bind pc_add (fun q35 h35 => ?_)
      refine Pc.bind pc_elseHere (fun q37 h37 => ?_)
      have fr9 := (fr8.tr h35.l).tr h37.l
      refine (ih q37 (l2 + 1) (i + 1) _ _ (C.cg fr9.tk) T4 (h37.st (h35.st k8)) (by omega) (by omega) ?_).mono (fun q hq => ?_)
      · intro z
        -- no fault: the TOKEN at t was taken, so fg = 0; then i < 4
        have z1 := (tk_z z).1
        have z2 : (tkS kd 20 x2 y2).1 = 0 := by
          by_cases w : (tkS kd 20 x2 y2).1 = 0
          · exact w
          · exact absurd ((m12.1 w).1.symm.trans z1) w
        have z3 := (tk_z z2).1
        have z4 : (tkS kd 60 x1 y1).1 = 0 := by
          by_cases w : (tkS kd 60 x1 y1).1 = 0
          · exact w
          · exact absurd ((m8.1 w).1.symm.trans z3) w
        have z5 := (tk_z z4).1
        have z6 : (tkS kd 19 fg t).1 = 0 := by
          by_cases w : (tkS kd 19 fg t).1 = 0
          · exact w
          · exact absurd ((m4.1 w).1.symm.trans z5) w
        have z7 := (tk_z z6).1
        exact fgi z7
      · obtain ⟨b1, f', t', k, b2, b3, b4⟩ := hq
        exact ⟨fr9.tr b1, x1, y1, x2, y2, x3, y3, f', t', k, b2, b3, m4, m8, m12, b4⟩
    refine Pc.lt (fun c3 => ?_) (fun c3 => ?_)
    · refine (body h 0 (frL.rf h) S (fun _ => by omega)).mono (fun q hq => ?_)
      obtain ⟨b1, x1, y1, x2, y2, x3, y3, f', t', k, b2, b3, r1, r2, r3, r4⟩ := hq
      exact ⟨b1, f', t', k + 1, b2, b3, Or.inr (Or.inr (Or.inr ⟨rfl, by omega, by omega, x1, y1, x2, y2, x3, y3, r1, r2, r3, r4⟩))⟩
    · refine Pc.bind (pc_stop S) (fun g hg => ?_)
      have Sg := hg.2
      rw [if_pos rfl, f2] at Sg
      have z2 : (2 : Int) ≠ 0 := by decide
      refine (body g 2 hg.1.l Sg (fun z => absurd z z2)).mono (fun q hq => ?_)
      obtain ⟨b1, x1, y1, x2, y2, x3, y3, f', t', k, b2, b3, r1, r2, r3, r4⟩ := hq
      rw [tk_f z2] at r1
      obtain ⟨e1, e2⟩ := r1.1 z2
      have e1' : x1 = 2 := e1
      have e2' : y1 = t := e2
      rw [e1', e2', tk_f z2] at r2
      obtain ⟨e3, e4⟩ := r2.1 z2
      have e3' : x2 = 2 := e3
      have e4' : y2 = t := e4
      rw [e3', e4', tk_f z2] at r3
      obtain ⟨e5, e6⟩ := r3.1 z2
      have e5' : x3 = 2 := e5
      have e6' : y3 = t := e6
      rw [e5', e6', tk_f z2] at r4
      have e7 : f' = 2 ∧ t' = t := by
        cases k with
        | zero => exact False.elim r4
        | succ k =>
          rcases r4 with ⟨-, q1, q2⟩ | ⟨q1, -⟩ | ⟨q1, -⟩ | ⟨q1, -⟩
          · exact ⟨q1, q2⟩
          · exact absurd q1 z2
          · exact absurd q1 z2
          · exact absurd q1 z2
      rw [e7.1, e7.2] at b2
      exact ⟨b1, 2, t, 1, b2, T, Or.inr (Or.inr (Or.inl ⟨rfl, by omega, by omega, rfl, rfl⟩))⟩
theorem pc_law (X : TX N kd pl vl) {h : Hp} {n : Nat} {x1 : Int32} {f : Int} {t : Nat} (C : CT N kd pl vl h) (T : tI2 N t) (S : cS h f t) : Pc (F_X7_readLaw n h x1) (lcP N kd 0 (tkS kd 61 f t).1 (tkS kd 61 f t).2 h) := by
  have f61 := lit_61
  unfold F_X7_readLaw
  refine Pc.bind (pc_take X C T S) (fun q1 h1 => ?_)
  obtain ⟨k1, k2, -⟩ := h1
  have T1 := tk_in X T (k := (61 : Int32).toInt) (f := f) (by rw [f61]; decide)
  rw [f61] at k2 T1
  refine Pc.bind pc_begin (fun q3 h3 => ?_)
  refine (pc_lawL X n q3 0 0 _ _ (C.cg (k1.l.tr h3.l).tk) T1 (h3.st k2) lit_0 (by omega) (fun _ => by omega)).mono (fun q hq => ?_)
  obtain ⟨b1, b2⟩ := hq
  exact ⟨(k1.l.tr h3.l).tr b1, b2⟩
end LA
