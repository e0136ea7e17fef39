section
/-! LAWS: the orders that the class lays down -/
/-- a law behind its =: E tells sums -/
def LW (E : Nat → List Int32 → Nat → Prop) (kd : Nat → Int) : List ((List Int32 × List Int32) × List Int32) → Nat → List Int32 → Nat → Prop
  | [], t, f, t' => kd t ≠ 19 ∧ E t f t'
  | ((x, y), c) :: r, t, f, t' => kd t = 19 ∧ ∃ t1 t2 t3, E (t + 1) x t1 ∧ kd t1 = 60 ∧ E (t1 + 1) y t2 ∧ kd t2 = 20 ∧ E (t2 + 1) c t3 ∧ kd t3 = 21 ∧ LW E kd r (t3 + 1) f t'
theorem LW.map {E E' : Nat → List Int32 → Nat → Prop} {kd : Nat → Int} (m : ∀ t C t', E t C t' → E' t C t') : ∀ {bs : List ((List Int32 × List Int32) × List Int32)} {t : Nat} {f : List Int32} {t' : Nat}, LW E kd bs t f t' → LW E' kd bs t f t' := by
  intro bs
  induction bs with
  | nil => intro t f t' h; exact ⟨h.1, m _ _ _ h.2⟩
  | cons b r ih =>
    intro t f t' h
    obtain ⟨⟨x, y⟩, c⟩ := b
    obtain ⟨h1, t1, t2, t3, h2, h3, h4, h5, h6, h7, h8⟩ := h
    exact ⟨h1, t1, t2, t3, m _ _ _ h2, h3, m _ _ _ h4, h5, m _ _ _ h6, h7, ih h8⟩
theorem LW.uniq {E : Nat → List Int32 → Nat → Prop} {kd : Nat → Int} (u : ∀ t C t' D t'', E t C t' → E t D t'' → C = D ∧ t' = t'') : ∀ {bs bs' : List ((List Int32 × List Int32) × List Int32)} {t : Nat} {f g : List Int32} {t' t'' : Nat}, LW E kd bs t f t' → LW E kd bs' t g t'' → bs = bs' ∧ f = g ∧ t' = t'' := by
  intro bs
  induction bs with
  | nil =>
    intro bs' t f g t' t'' h k
    rcases bs' with _ | ⟨⟨⟨x, y⟩, c⟩, r⟩
    · have := u _ _ _ _ _ h.2 k.2
      exact ⟨rfl, this.1, this.2⟩
    · exact absurd k.1 h.1
  | cons b r ih =>
    intro bs' t f g t' t'' h k
    obtain ⟨⟨x, y⟩, c⟩ := b
    rcases bs' with _ | ⟨⟨⟨x', y'⟩, c'⟩, r'⟩
    · exact absurd h.1 k.1
    · obtain ⟨h1, t1, t2, t3, h2, h3, h4, h5, h6, h7, h8⟩ := h
      obtain ⟨k1, u1, u2, u3, k2, k3, k4, k5, k6, k7, k8⟩ := k
      obtain ⟨e1, e2⟩ := u _ _ _ _ _ h2 k2
      subst e1 e2
      obtain ⟨e1, e2⟩ := u _ _ _ _ _ h4 k4
      subst e1 e2
      obtain ⟨e1, e2⟩ := u _ _ _ _ _ h6 k6
      subst e1 e2
      obtain ⟨e1, e2, e3⟩ := ih h8 k8
      exact ⟨by rw [e1], e2, e3⟩
/-- the sums of a law, as the class goes down -/
def rcE (kd vl : Nat → Int) (t : Nat) (C : List Int32) (t' : Nat) : Prop := RD kd vl 2 0 0 t C t'
/-- the sums of a law, by what waits -/
def meE (kd vl : Nat → Int) (t : Nat) (C : List Int32) (t' : Nat) : Prop := ME kd vl true [] t (C, t')
theorem rd_me {kd vl : Nat → Int} (t : Nat) (C : List Int32) (t' : Nat) (h : rcE kd vl t C t') : meE kd vl t C t' := RD.whole h
theorem me_u {kd vl : Nat → Int} (t : Nat) (C : List Int32) (t' : Nat) (D : List Int32) (t'' : Nat) (h : meE kd vl t C t') (k : meE kd vl t D t'') : C = D ∧ t' = t'' := by
  have := ME.uniq h k
  exact ⟨congrArg Prod.fst this, congrArg Prod.snd this⟩
theorem LW.gd {kd vl : Nat → Int} (vlr : ∀ t, kd t = 30 → 0 ≤ vl t ∧ vl t ≤ 9999) : ∀ {bs : List ((List Int32 × List Int32) × List Int32)} {t : Nat} {f : List Int32} {t' : Nat}, LW (rcE kd vl) kd bs t f t' → gdB 16 bs ∧ gdC 16 f := by
  intro bs
  induction bs with
  | nil => intro t f t' h; exact ⟨fun b hb => absurd hb List.not_mem_nil, (RD.gd vlr h.2).1⟩
  | cons b r ih =>
    intro t f t' h
    obtain ⟨⟨x, y⟩, c⟩ := b
    obtain ⟨h1, t1, t2, t3, h2, h3, h4, h5, h6, h7, h8⟩ := h
    obtain ⟨i1, i2⟩ := ih h8
    refine ⟨fun b hb => ?_, i2⟩
    rcases List.mem_cons.mp hb with z | z
    · rw [z]
      refine ⟨(RD.gd vlr h2).1, ?_, (RD.gd vlr h4).1, (RD.gd vlr h6).1⟩
      show dpL 16 (x ++ y) 0 = some 2
      rw [dpL_app, (RD.gd vlr h2).1]
      exact (RD.gd vlr h4).2
    · exact i1 b z
/-- as far as S orders nothing has changed -/
theorem clO.cg {g g' : Nat → Int32} {S S' : Nat} (hS : S ≤ S') (e : ∀ k, k < S → g' k = g k) : ∀ {bs : List ((List Int32 × List Int32) × List Int32)} {p : Nat} {f : List Int32}, clO g S p bs f → clO g' S' p bs f := by
  intro bs
  induction bs with
  | nil =>
    intro p f h
    have l : (f ++ [(-15 : Int32)]).length = f.length + 1 := by simp
    exact ⟨h.1.cg (fun k h1 h2 => e k (by have := h.2; omega)), by have := h.2; omega⟩
  | cons b r ih =>
    intro p f h
    obtain ⟨⟨x, y⟩, c⟩ := b
    obtain ⟨h1, h2, h3, h4, h5, h6⟩ := h
    have l : (c ++ [(-15 : Int32)]).length = c.length + 1 := by simp
    refine ⟨h1.cg (fun k _ k2 => e k (by omega)), ?_, ?_, h4.cg (fun k _ k2 => e k (by omega)), by omega, ih h6⟩
    · rw [e _ (by omega)]; exact h2
    · rw [e _ (by omega)]; exact h3
theorem Pc.zb {α : Type} {o : Option α} {g : Hp} {F : α → Hp} {f : α → Option Hp} (h1 : Pc o (fun x => zc g (F x))) (h2 : ∀ x, Pc (f x) (fun q => zc (F x) q)) : Pc (o.bind f) (fun q => zc g q) := Pc.bind h1 (fun x hx => (h2 x).mono (fun _ m => hx.tr m))
/-- one step on, as long as there is no fault -/
theorem Pc.zs {α : Type} {o : Option α} {F : α → Hp} {A : α → Prop} {f : α → Option Hp} {P : Hp → Prop} (h1 : Pc o (fun x => zF (F x) → A x)) (h2 : ∀ x, zF (F x) → A x → Pc (f x) (fun q => zF q → P q)) (h3 : ∀ x, Pc (f x) (fun q => zc (F x) q)) : Pc (o.bind f) (fun q => zF q → P q) := by
  refine Pc.bind h1 (fun x a => ?_)
  by_cases z : zF (F x)
  · exact h2 x z (a z)
  · exact (h3 x).mono (fun q m y => absurd (m.2.1 y) z)
section QL
variable {N : Nat} {kd pl vl : Nat → Int}
theorem zb_add {n : Nat} {h : Hp} {x : Int32} : Pc (F_X4_add n h 5 x) (fun q => zc h q) := pc_add.mono (fun q f => zc.of (f.1 2 5 (by decide) (by decide) (by decide)) (f.1 2 6 (by decide) (by decide) (by decide)))
theorem zb_addLess {n : Nat} {h : Hp} : Pc (F_X4_addLess n h 5) (fun q => zc h q.2) := pc_addLess.mono (fun q f => zc.of (f.1 2 5 (by decide) (by decide) (by decide)) (f.1 2 6 (by decide) (by decide) (by decide)))
theorem zb_elseHere {n : Nat} {h : Hp} {x : Int32} : Pc (F_X4_elseHere n h 5 x) (fun q => zc h q) := pc_elseHere.mono (fun q f => zc.of (f.1 2 5 (by decide) (by decide) (by decide)) (f.1 2 6 (by decide) (by decide) (by decide)))
/-- a TOKEN is taken, and there is no fault -/
theorem qz_take (X : TX N kd pl vl) {h : Hp} {n t : Nat} (C : CT N kd pl vl h) (T : tI2 N t) (S : cS h 0 t) {x1 : Int32} (k : Int) (hx : x1.toInt = k) (k2 : k ≠ 32) : Pc (F_X7_take n h x1) (fun q => zF q.2 → frK h q.2 ∧ cS q.2 0 (t + 1) ∧ kd t = k ∧ t < 400 ∧ tI2 N (t + 1)) := by
  refine (pc_take X C T S).mono (fun q hq z => ?_)
  obtain ⟨a1, a2, -⟩ := hq
  have T' := tk_in X T (k := x1.toInt) (f := 0) (by rw [hx]; exact k2)
  have fz : (tkS kd x1.toInt 0 t).1 = 0 := by
    have := a2.1
    unfold zF at z
    omega
  obtain ⟨-, e1, e2, e3⟩ := tk_z fz
  rw [e3] at a2 T'
  exact ⟨a1, a2, e1.trans hx, e2, T'⟩
/-- a sum is read, and there is no fault -/
theorem qz_sum (X : TX N kd pl vl) {h : Hp} {n t s : Nat} (C : CT N kd pl vl h) (T : tI2 N t) (S : cS h 0 t) (os : osN h s) (sl : s ≤ 3 + t) : Pc (F_X7_readSumT n h 0) (fun q => zF q → ∃ D t', frL h q ∧ cS q 0 t' ∧ tI2 N t' ∧ rcE kd vl t D t' ∧ oaP h q s D ∧ D.length + t ≤ t') := by
  refine fun q e => ?_
  have a := pc_sum X C T S q e
  have b := qc_sum X C T S os sl q e
  intro z
  obtain ⟨m1, f', t1, m2, m3, m4⟩ := a
  obtain ⟨D, t', r1, r2, r3, r4, r5⟩ := b z
  have tt : t' = t1 := by
    have x := r1.2
    have y := m2.2
    omega
  subst tt
  exact ⟨D, t', m1, r1, m3, r2, r3, r2.len.2.2 rfl⟩
theorem oa_begin {n : Nat} {h : Hp} {x : Int32} {k s : Nat} (hx : x.toInt = (k : Int)) (k4 : k < 4) (os : osN h s) : Pc (F_X4_begin n h 5 x) (fun q => frO h q ∧ osN q s ∧ (hi q 7 k).toInt = (s : Int) ∧ (∀ j, j ≠ k → hi q 7 j = hi h 7 j) ∧ ∀ j, hi q 6 j = hi h 6 j) := by
  have f0 := lit_0
  have f4 := lit_4
  refine fun q e => And.intro (pc_begin q e) ?_
  revert q e
  show Pc (F_X4_begin n h 5 x) (fun q => osN q s ∧ (hi q 7 k).toInt = (s : Int) ∧ (∀ j, j ≠ k → hi q 7 j = hi h 7 j) ∧ ∀ j, hi q 6 j = hi h 6 j)
  have nx := ncT (show 0 ≤ x.toInt by omega)
  have nx' : Int32.toNatClampNeg x = k := by omega
  unfold F_X4_begin
  rw [nx']
  refine Pc.lt (fun c => by exfalso; omega) (fun _ => Pc.le (fun c => by exfalso; omega) (fun _ => Pc.chk (fun _ => Pc.ret ⟨?_, ?_, fun j hj => ?_, fun j => ?_⟩)))
  · unfold osN
    rw [hiA rfl 5 3 (by decide)]
    exact os
  · rw [hiE rfl]; exact os
  · rw [hi_wrI, if_neg (by omega)]
  · rw [hi_wrI, if_neg (by omega)]
theorem oa_less {n : Nat} {h : Hp} {s : Nat} (os : osN h s) (s4 : s + 2 ≤ 404) : Pc (F_X4_addLess n h 5) (fun q => frO h q.2 ∧ oaP h q.2 s [-14, 0] ∧ q.1.toInt = ((s + 1 : Nat) : Int)) := by
  have f1 := lit_1
  unfold F_X4_addLess
  refine Pc.bind (oa_add os (by omega)) (fun q1 h1 => Pc.bind (oa_add (s := s + 1) h1.1.1 (by omega)) (fun q3 h3 => Pc.ret ⟨h1.2.tr h3.2, h1.1.tr h3.1, ?_⟩))
  have o : (hi q3 5 3).toInt = ((s + 1 + 1 : Nat) : Int) := h3.1.1
  exact (sbV (hi q3 5 3) 1 o f1 (by omega) (by omega)).trans (by omega)
theorem oa_else {n : Nat} {h : Hp} {x : Int32} {r s : Nat} (os : osN h s) (hx : x.toInt = (r : Int)) (r4 : r < 404) : Pc (F_X4_elseHere n h 5 x) (fun q => frO h q ∧ osN q s ∧ (hi q 6 r).toInt = (s : Int) ∧ (∀ j, j ≠ r → hi q 6 j = hi h 6 j) ∧ ∀ j, hi q 7 j = hi h 7 j) := by
  have f0 := lit_0
  have f4 := lit_404'
  refine fun q e => And.intro (pc_elseHere q e) ?_
  revert q e
  show Pc (F_X4_elseHere n h 5 x) (fun q => osN q s ∧ (hi q 6 r).toInt = (s : Int) ∧ (∀ j, j ≠ r → hi q 6 j = hi h 6 j) ∧ ∀ j, hi q 7 j = hi h 7 j)
  have nx := ncT (show 0 ≤ x.toInt by omega)
  have nx' : Int32.toNatClampNeg x = r := by omega
  unfold F_X4_elseHere
  rw [nx']
  refine Pc.lt (fun c => by exfalso; omega) (fun _ => Pc.le (fun c => by exfalso; omega) (fun _ => Pc.chk (fun _ => Pc.ret ⟨?_, ?_, fun j hj => ?_, fun j => ?_⟩)))
  · unfold osN
    rw [hiA rfl 5 3 (by decide)]
    exact os
  · rw [hiE rfl]; exact os
  · rw [hi_wrI, if_neg (by omega)]
  · rw [hi_wrI, if_neg (by omega)]
/-- what a law read lays down -/
def lawQ (kd vl : Nat → Int) (t s : Nat) (h q : Hp) : Prop := ∃ bs f t' s2, cS q 0 t' ∧ LW (rcE kd vl) kd bs t f t' ∧ osN q s2 ∧ clO (hi q 6) s2 s bs f ∧ (∀ k, k < s → hi q 6 k = hi h 6 k) ∧ (∀ k, hi q 7 k = hi h 7 k) ∧ s2 ≤ 3 + t' ∧ t < t' ∧ t' ≤ 400 ∧ s < s2
theorem wr_end (X : TX N kd pl vl) {h : Hp} {n t s : Nat} (C : CT N kd pl vl h) (T : tI2 N t) (S : cS h 0 t) (os : osN h s) (sl : s ≤ 2 + t) (ne : kd t ≠ 19) : Pc ((F_X7_readSumT n h 0).bind (fun q2 => ((F_X4_add n q2 5 (-15)).bind (fun q4 => some q4)))) (fun q => zF q → lawQ kd vl t s h q) := by
  refine Pc.zs (qz_sum X C T S os (by omega)) (fun q2 _ a => ?_) (fun q2 => ?_)
  · obtain ⟨D, t', a1, a2, a3, a4, a5, a6⟩ := a
    have a32 := a3.2
    have ne1 : D ≠ [] := a4.ne
    have l1 : 0 < D.length := List.length_pos_iff.mpr ne1
    refine Pc.bind (oa_add a5.1 (by omega)) (fun q4 h4 => Pc.ret (fun _ => ?_))
    have u := a5.tr h4.1
    have l2 : (D ++ [(-15 : Int32)]).length = D.length + 1 := by simp
    refine ⟨[], D, t', s + (D ++ [(-15 : Int32)]).length, h4.2.st a2, ⟨ne, a4⟩, u.1, ⟨u.2.1, by omega⟩, u.2.2.1, u.2.2.2, by omega, by omega, by omega, by omega⟩
  · (refine Pc.zb zb_add (fun _ => ?_); exact Pc.ret (zc.rf _))
set_option maxHeartbeats 8000000 in
theorem qc_lawL (X : TX N kd pl vl) {l1 : Int32} : ∀ (n : Nat) (h : Hp) (l2 : Int32) (t s : Nat), CT N kd pl vl h → tI2 N t → cS h 0 t → 0 ≤ l2.toInt → l2.toInt ≤ 4 → osN h s → s ≤ 2 + t → Pc (W_X7_readLaw n 20 h l1 l2) (fun q => zF q → lawQ kd vl t s h q) := by
  have f0 := lit_0
  have f1 := lit_1
  have f2 := lit_2
  have f4 := lit_4
  have f19 := lit_19
  have f20 := lit_20
  have f60 := lit_60
  have l21 : (21 : Int32).toInt = 21 := by decide
  intro n
  induction n with
  | zero => intro h l2 t s C T S a b os sl; exact Pc.no
  | succ n ih =>
    intro h l2 t s C T S a b os sl
    have T2 := T.2
    rw [u_X7_readLaw]
    refine Pc.pos rfl ?_
    have s1 := S.1
    refine Pc.eq (fun c0 => ?_) (fun c0 => by exfalso; omega)
    unfold F_X7_kind
    refine Pc.bind (Q := fun q => q.2 = h ∧ q.1.toInt = kd t) (Pc.bind (pc_kindOf X C T S.2) (fun q hq => Pc.ret hq)) (fun q6 h6 => ?_)
    rw [h6.1]
    have v6 := h6.2
    refine Pc.eq (fun c1 => ?_) (fun c1 => wr_end X C T S os sl (by omega))
    have k19 : kd t = 19 := by omega
    have a1 := adT l2 1 (by omega) (by omega)
    refine Pc.lt (fun c2 => by exfalso; omega) (fun c2 => ?_)
    refine Pc.lt (fun c3 => ?_) (fun c3 => ?_)
    · refine Pc.zs (qz_take X C T S 19 f19 (by decide)) (fun q19 _ a => ?_) (fun q => ?_)
      rotate_left
      · (refine Pc.zb zb_X7_readSumT (fun _ => ?_); refine Pc.zb zb_X7_take (fun _ => ?_); refine Pc.zb zb_X7_readSumT (fun _ => ?_); refine Pc.zb zb_X7_take (fun _ => ?_); refine Pc.zb zb_addLess (fun _ => ?_); refine Pc.zb zb_X7_readSumT (fun _ => ?_); refine Pc.zb zb_X7_take (fun _ => ?_); refine Pc.zb zb_add (fun _ => ?_); refine Pc.zb zb_elseHere (fun _ => ?_); exact zv_X7_readLaw _ _ _ _ _)
      obtain ⟨b1, b2, b3, b4, b5⟩ := a
      have C1 := C.cg b1.tk
      refine Pc.zs (qz_sum X C1 b5 b2 (b1.os os) (by omega)) (fun q21 _ a => ?_) (fun q => ?_)
      rotate_left
      · (refine Pc.zb zb_X7_take (fun _ => ?_); refine Pc.zb zb_X7_readSumT (fun _ => ?_); refine Pc.zb zb_X7_take (fun _ => ?_); refine Pc.zb zb_addLess (fun _ => ?_); refine Pc.zb zb_X7_readSumT (fun _ => ?_); refine Pc.zb zb_X7_take (fun _ => ?_); refine Pc.zb zb_add (fun _ => ?_); refine Pc.zb zb_elseHere (fun _ => ?_); exact zv_X7_readLaw _ _ _ _ _)
      obtain ⟨x, t1, c1, c2, c3, c4, c5, c6⟩ := a
      have C2 := C1.cg c1.tk
      refine Pc.zs (qz_take X C2 c3 c2 60 f60 (by decide)) (fun q23 _ a => ?_) (fun q => ?_)
      rotate_left
      · (refine Pc.zb zb_X7_readSumT (fun _ => ?_); refine Pc.zb zb_X7_take (fun _ => ?_); refine Pc.zb zb_addLess (fun _ => ?_); refine Pc.zb zb_X7_readSumT (fun _ => ?_); refine Pc.zb zb_X7_take (fun _ => ?_); refine Pc.zb zb_add (fun _ => ?_); refine Pc.zb zb_elseHere (fun _ => ?_); exact zv_X7_readLaw _ _ _ _ _)
      obtain ⟨d1, d2, d3, d4, d5⟩ := a
      have C3 := C2.cg d1.tk
      have o3 : osN q23.2 (s + x.length) := d1.os c5.1
      refine Pc.zs (qz_sum X C3 d5 d2 o3 (by omega)) (fun q25 _ a => ?_) (fun q => ?_)
      rotate_left
      · (refine Pc.zb zb_X7_take (fun _ => ?_); refine Pc.zb zb_addLess (fun _ => ?_); refine Pc.zb zb_X7_readSumT (fun _ => ?_); refine Pc.zb zb_X7_take (fun _ => ?_); refine Pc.zb zb_add (fun _ => ?_); refine Pc.zb zb_elseHere (fun _ => ?_); exact zv_X7_readLaw _ _ _ _ _)
      obtain ⟨y, t2, e1, e2, e3, e4, e5, e6⟩ := a
      have C4 := C3.cg e1.tk
      refine Pc.zs (qz_take X C4 e3 e2 20 f20 (by decide)) (fun q27 _ a => ?_) (fun q => ?_)
      rotate_left
      · (refine Pc.zb zb_addLess (fun _ => ?_); refine Pc.zb zb_X7_readSumT (fun _ => ?_); refine Pc.zb zb_X7_take (fun _ => ?_); refine Pc.zb zb_add (fun _ => ?_); refine Pc.zb zb_elseHere (fun _ => ?_); exact zv_X7_readLaw _ _ _ _ _)
      obtain ⟨g1, g2, g3, g4, g5⟩ := a
      have C5 := C4.cg g1.tk
      have o5 : osN q27.2 (s + x.length + y.length) := g1.os e5.1
      refine Pc.bind (oa_less o5 (by omega)) (fun q29 h29 => ?_)
      obtain ⟨i1, i2, i3⟩ := h29
      have C6 := C5.cg i1.l.tk
      have o6 : osN q29.2 (s + x.length + y.length + 2) := i2.1
      refine Pc.zs (qz_sum X C6 g5 (i1.st g2) o6 (by omega)) (fun q31 _ a => ?_) (fun q => ?_)
      rotate_left
      · (refine Pc.zb zb_X7_take (fun _ => ?_); refine Pc.zb zb_add (fun _ => ?_); refine Pc.zb zb_elseHere (fun _ => ?_); exact zv_X7_readLaw _ _ _ _ _)
      obtain ⟨c, t3, j1, j2, j3, j4, j5, j6⟩ := a
      have C7 := C6.cg j1.tk
      refine Pc.zs (qz_take X C7 j3 j2 21 l21 (by decide)) (fun q33 _ a => ?_) (fun q => ?_)
      rotate_left
      · (refine Pc.zb zb_add (fun _ => ?_); refine Pc.zb zb_elseHere (fun _ => ?_); exact zv_X7_readLaw _ _ _ _ _)
      obtain ⟨k1, k2, k3, k4, k5⟩ := a
      have C8 := C7.cg k1.tk
      have o7 : osN q33.2 (s + x.length + y.length + 2 + c.length) := k1.os j5.1
      refine Pc.bind (oa_add o7 (by omega)) (fun q35 h35 => ?_)
      obtain ⟨m1, m2⟩ := h35
      have o8 : osN q35 (s + x.length + y.length + 2 + c.length + 1) := m1.1
      refine Pc.bind (oa_else o8 i3 (by omega)) (fun q37 h37 => ?_)
      obtain ⟨n1, n2, n3, n4, n5⟩ := h37
      have C9 := C8.cg (m2.l.tr n1.l).tk
      refine (ih q37 (l2 + 1) (t3 + 1) _ C9 k5 (n1.st (m2.st k2)) (by omega) (by omega) n2 (by omega)).mono (fun q hq z => ?_)
      obtain ⟨bs, f, t', s2, p1, p2, p3, p4, p5, p6, p7, p8, p9, p10⟩ := hq z
      -- what lay there when all was laid down
      have A1 : oaP h q35 s (x ++ y ++ [-14, 0] ++ c ++ [-15]) := by
        have u1 : oaP h q21 s x := c5.l b1.o6 b1.o7
        have u2 : oaP q21 q25 (s + x.length) y := e5.l d1.o6 d1.o7
        have u3 : oaP q25 q29.2 (s + x.length + y.length) [-14, 0] := i2.l g1.o6 g1.o7
        have u4 : oaP q31 q35 (s + x.length + y.length + 2 + c.length) [-15] := m1.l k1.o6 k1.o7
        have v1 := u1.tr u2
        have v2 := v1.tr (by rw [List.length_append, ← Nat.add_assoc]; exact u3)
        have v3 := v2.tr (D := c) (by rw [List.length_append, List.length_append, ← Nat.add_assoc, ← Nat.add_assoc]; exact j5)
        exact v3.tr (by rw [List.length_append, List.length_append, List.length_append, ← Nat.add_assoc, ← Nat.add_assoc, ← Nat.add_assoc]; exact u4)
      have lxy : (x ++ y).length = x.length + y.length := by simp
      have A2 : odA (hi q35 6) s ((x ++ y ++ [-14, 0]) ++ (c ++ [-15])) := by
        rw [← List.append_assoc]
        exact A1.2.1
      obtain ⟨A34, A5⟩ := odA.app.mp A2
      obtain ⟨A3, A4⟩ := odA.app.mp A34
      have r6 (k : Nat) (hk : k < s + x.length + y.length + 2 + c.length + 1) : hi q 6 k = hi q37 6 k := p5 k hk
      refine ⟨((x, y), c) :: bs, f, t', s2, p1, ⟨k19, t1, t2, t3, c4, d3, e4, g3, j4, k3, p2⟩, p3, ⟨?_, ?_, ?_, ?_, ?_, ?_⟩, fun k hk => ?_, fun k => ?_, p7, by omega, p9, by omega⟩
      · exact A3.cg (fun k h1 h2 => by rw [r6 k (by omega), n4 k (by omega)])
      · rw [lxy, r6 _ (by omega), n4 _ (by omega)]
        have := A4.1
        rw [lxy] at this
        exact this
      · rw [lxy, r6 _ (by omega)]
        have e : s + (x.length + y.length) + 1 = s + x.length + y.length + 1 := by omega
        rw [e, n3]
        have e2 : s + (x.length + y.length) + 2 + c.length + 1 = s + x.length + y.length + 2 + c.length + 1 := by omega
        rw [e2]
      · rw [lxy]
        have e : s + (x ++ y ++ [(-14 : Int32), 0]).length = s + (x.length + y.length) + 2 := by simp; omega
        rw [e] at A5
        have lc : (c ++ [(-15 : Int32)]).length = c.length + 1 := by simp
        exact A5.cg (fun k h1 h2 => by rw [r6 k (by omega), n4 k (by omega)])
      · rw [lxy]; omega
      · have e : s + (x ++ y).length + 2 + c.length + 1 = s + x.length + y.length + 2 + c.length + 1 := by omega
        rw [e]
        exact p4
      · rw [p5 k (by omega), n4 k (by omega)]
        exact A1.2.2.1 k hk
      · rw [p6 k, n5 k]
        exact A1.2.2.2 k
    · -- a 5th if
      refine Pc.bind (pc_stop S) (fun g hg => ?_)
      have Sg := hg.2
      rw [if_pos rfl, f2] at Sg
      have z2 : ¬ zF g := zF.no Sg (by decide)
      have ch : Pc ((F_X7_take n g 19).bind (fun q19 => ((F_X7_readSumT n q19.2 0).bind (fun q21 => ((F_X7_take n q21 60).bind (fun q23 => ((F_X7_readSumT n q23.2 0).bind (fun q25 => ((F_X7_take n q25 20).bind (fun q27 => ((F_X4_addLess n q27.2 5).bind (fun q29 => ((F_X7_readSumT n q29.2 0).bind (fun q31 => ((F_X7_take n q31 21).bind (fun q33 => ((F_X4_add n q33.2 5 (-15)).bind (fun q35 => ((F_X4_elseHere n q35 5 q29.1).bind (fun q37 => W_X7_readLaw n 20 q37 l1 (l2 + 1))))))))))))))))))))) (fun q => zc g q) := by
        (refine Pc.zb zb_X7_take (fun _ => ?_); refine Pc.zb zb_X7_readSumT (fun _ => ?_); refine Pc.zb zb_X7_take (fun _ => ?_); refine Pc.zb zb_X7_readSumT (fun _ => ?_); refine Pc.zb zb_X7_take (fun _ => ?_); refine Pc.zb zb_addLess (fun _ => ?_); refine Pc.zb zb_X7_readSumT (fun _ => ?_); refine Pc.zb zb_X7_take (fun _ => ?_); refine Pc.zb zb_add (fun _ => ?_); refine Pc.zb zb_elseHere (fun _ => ?_); exact zv_X7_readLaw _ _ _ _ _)
      exact ch.mono (fun q m z => absurd (m.2.1 z) z2)
/-- a law, read: behind its word -/
theorem qc_law (X : TX N kd pl vl) {h : Hp} {n t s k : Nat} {x1 : Int32} (C : CT N kd pl vl h) (T : tI2 N t) (S : cS h 0 t) (hx : x1.toInt = (k : Int)) (k4 : k < 4) (os : osN h s) (sl : s ≤ 3 + t) : Pc (F_X7_readLaw n h x1) (fun q => zF q → ∃ bs f t' s2, kd t = 61 ∧ cS q 0 t' ∧ LW (rcE kd vl) kd bs (t + 1) f t' ∧ osN q s2 ∧ clO (hi q 6) s2 s bs f ∧ (∀ j, j < s → hi q 6 j = hi h 6 j) ∧ (hi q 7 k).toInt = (s : Int) ∧ (∀ j, j ≠ k → hi q 7 j = hi h 7 j) ∧ s2 ≤ 3 + t' ∧ t < t' ∧ t' ≤ 400 ∧ s < s2) := by
  have f0 := lit_0
  have f61 := lit_61
  unfold F_X7_readLaw
  refine Pc.zs (qz_take X C T S 61 f61 (by decide)) (fun q1 _ a => ?_) (fun q => ?_)
  rotate_left
  · refine Pc.zb (pc_begin.mono (fun q f => zc.of (f.1 2 5 (by decide) (by decide) (by decide)) (f.1 2 6 (by decide) (by decide) (by decide)))) (fun _ => ?_)
    exact zv_X7_readLaw _ _ _ _ _
  obtain ⟨b1, b2, b3, b4, b5⟩ := a
  refine Pc.bind (oa_begin hx k4 (b1.os os)) (fun q3 h3 => ?_)
  obtain ⟨c1, c2, c3, c4, c5⟩ := h3
  refine (qc_lawL X n q3 0 (t + 1) s (C.cg (b1.l.tr c1.l).tk) b5 (c1.st b2) (by omega) (by omega) c2 (by omega)).mono (fun q hq z => ?_)
  obtain ⟨bs, f, t', s2, p1, p2, p3, p4, p5, p6, p7, p8, p9, p10⟩ := hq z
  exact ⟨bs, f, t', s2, b3, p1, p2, p3, p4, fun j hj => by rw [p5 j hj, c5 j, b1.o6 j], by rw [p6 k]; exact c3, fun j hj => by rw [p6 j, c4 j hj, b1.o7 j], p7, by omega, p9, p10⟩
end QL
end
section
/-! LAWS: what the reference lays down -/
theorem Pc.yb {α : Type} {o : Option α} {g : Hp} {F : α → Hp} {f : α → Option Hp} (h1 : Pc o (fun x => zr g (F x))) (h2 : ∀ x, Pc (f x) (fun q => zr (F x) q)) : Pc (o.bind f) (fun q => zr g q) := Pc.bind h1 (fun x hx => (h2 x).mono (fun _ m => hx.tr m))
theorem Pc.ys {α : Type} {o : Option α} {F : α → Hp} {A : α → Prop} {f : α → Option Hp} {P : Hp → Prop} (h1 : Pc o (fun x => zR (F x) → A x)) (h2 : ∀ x, zR (F x) → A x → Pc (f x) (fun q => zR q → P q)) (h3 : ∀ x, Pc (f x) (fun q => zr (F x) q)) : Pc (o.bind f) (fun q => zR q → P q) := by
  refine Pc.bind h1 (fun x a => ?_)
  by_cases z : zR (F x)
  · exact h2 x z (a z)
  · exact (h3 x).mono (fun q m y => absurd (m.2.1 y) z)
/-- where the reference stands in a law -/
def rlI (N : Nat) (kd pl vl : Nat → Int) (s t B c : Nat) (h : Hp) : Prop := (RT N kd pl vl h ∧ tI2 N t ∧ rT pl h 0 t ∧ (hi h 226 12).toInt = 0) ∧ (hi h 226 39).toInt = (B : Int) ∧ (hi h 226 45).toInt = (c : Int) ∧ (hi h 226 19).toInt = (s : Int)
/-- what lies below is as it was -/
def kB (B c : Nat) (h q : Hp) : Prop := (∀ a k, 252 ≤ a → a ≤ 256 → k < B → hi q a k = hi h a k) ∧ (∀ k, k < c → hi q 257 k = hi h 257 k ∧ hi q 258 k = hi h 258 k) ∧ (∀ k, hi q 250 k = hi h 250 k) ∧ ∀ k, hi q 251 k = hi h 251 k
theorem kB.rf (B c : Nat) (h : Hp) : kB B c h h := ⟨fun _ _ _ _ _ => rfl, fun _ _ => ⟨rfl, rfl⟩, fun _ => rfl, fun _ => rfl⟩
theorem kB.tr {B c B' c' : Nat} {h q r : Hp} (a : kB B c h q) (b : kB B' c' q r) (hB : B ≤ B') (hc : c ≤ c') : kB B c h r := ⟨fun x k h1 h2 h3 => (b.1 x k h1 h2 (by omega)).trans (a.1 x k h1 h2 h3), fun k hk => ⟨(b.2.1 k (by omega)).1.trans (a.2.1 k hk).1, (b.2.1 k (by omega)).2.trans (a.2.1 k hk).2⟩, fun k => (b.2.2.1 k).trans (a.2.2.1 k), fun k => (b.2.2.2 k).trans (a.2.2.2 k)⟩
theorem frQ.kB {B c : Nat} {h q : Hp} (f : frQ h q) : kB B c h q := ⟨fun a k h1 h2 _ => f.1 a k (by omega), fun k _ => ⟨f.1 257 k (by omega), f.1 258 k (by omega)⟩, fun k => f.1 250 k (by omega), fun k => f.1 251 k (by omega)⟩
section RL
variable {N : Nat} {kd pl vl : Nat → Int} {s t B c : Nat} {h : Hp} {n : Nat}
theorem rlI.q {q : Hp} {t' : Nat} (a : rlI N kd pl vl s t B c h) (f : frQ h q) (T' : tI2 N t') (S' : rT pl q 0 t') : rlI N kd pl vl s t' B c q := ⟨⟨a.1.1.cg f.rt, T', S', by rw [f.op]; exact a.1.2.2.2⟩, by rw [f.1 226 39 (by decide)]; exact a.2.1, by rw [f.1 226 45 (by decide)]; exact a.2.2.1, by rw [f.1 226 19 (by decide)]; exact a.2.2.2⟩
/-- a TOKEN is taken, and there is no fault -/
theorem rz_must (X : TX N kd pl vl) (a : rlI N kd pl vl s t B c h) {x1 : Int32} (k : Int) (hk : k ∈ vdL) (hx : x1.toInt = rk k) (k2 : k ≠ 32) : Pc (F_X12_must n h x1) (fun q => zR q → rlI N kd pl vl s (t + 1) B c q ∧ kd t = k ∧ frQ h q ∧ t < 400) := by
  refine (pr_must X a.1.1 a.1.2.1 a.1.2.2.1 k hk hx).mono (fun q hq z => ?_)
  have T' := tk_in X a.1.2.1 (k := k) (f := 0) k2
  have fz : (tkS kd k 0 t).1 = 0 := by
    have := hq.2.2.1
    unfold zR at z
    omega
  obtain ⟨-, e1, e2, e3⟩ := tk_z fz
  have S' := hq.2
  rw [e3] at S' T'
  exact ⟨a.q hq.1 T' S', e1, hq.1, e2⟩
/-- one that is there is taken -/
theorem rz_goes (X : TX N kd pl vl) (a : rlI N kd pl vl s t B c h) (k2 : kd t ≠ 32) : Pc (F_X12_goesOn n h) (fun q => zR q → rlI N kd pl vl s (t + 1) B c q ∧ frQ h q ∧ t < 400) := by
  refine (pr_goesOn' a.1.1 a.1.2.1 a.1.2.2.1).mono (fun q hq z => ?_)
  have T' := gn_in X a.1.2.1 k2
  have S' := hq.2
  unfold gnS at T' S'
  by_cases c4 : t < 400
  · rw [if_pos c4] at T' S'
    exact ⟨a.q hq.1 T' S', hq.1, c4⟩
  · rw [if_neg c4] at S'
    exfalso
    have y : (hi q 226 13).toInt = 2 := S'.2.1
    unfold zR at z
    omega
/-- a sum is told, and there is no fault -/
theorem rz_sum (X : TX N kd pl vl) (a : rlI N kd pl vl s t B c h) : Pc (F_X12_expression n h) (fun q => zR q → ∃ C t', rlI N kd pl vl s t' B (c + C.length) q ∧ meE kd vl t C t' ∧ ocP h q c C ∧ frE h q) := by
  refine fun q e => ?_
  have p := pr_sum X a.1.1 a.1.2.1 a.1.2.2.1 (fun _ => a.1.2.2.2) q e
  have r := qr_sum X a.1.1 a.1.2.1 a.1.2.2.1 a.1.2.2.2 a.2.2.1 q e
  intro z
  obtain ⟨m1, f', t1, m2, m3, m4, m5⟩ := p
  obtain ⟨C, t', r1, r2, r3⟩ := r z
  have z' : (hi q 226 13).toInt = 0 := z
  have f0 : f' = 0 := by have := m2.2.1; omega
  subst f0
  have tt : t' = t1 := by
    have x := r1.2.2.1 rfl
    have y := m2.2.2.1 rfl
    omega
  subst tt
  refine ⟨C, t', ⟨⟨a.1.1.cg m1.rt, m3, r1, m5 rfl⟩, ?_, r3.1, ?_⟩, r2, r3, m1⟩
  · rw [m1.1 226 39 (by decide) (by decide) (by decide) (by decide)]; exact a.2.1
  · rw [m1.1 226 19 (by decide) (by decide) (by decide) (by decide)]; exact a.2.2.2
theorem ocP.kB {q : Hp} {C : List Int32} (o : ocP h q c C) (m : frE h q) : kB B c h q := ⟨fun a k h1 h2 _ => m.1 a k (by omega) (by omega) (by omega) (by omega), fun k hk => o.2.2 k hk, fun k => m.1 250 k (by omega) (by omega) (by omega) (by omega), fun k => m.1 251 k (by omega) (by omega) (by omega) (by omega)⟩
/-- a cell of a branch is written -/
theorem rlI.w (a : rlI N kd pl vl s t B c h) {x k : Nat} {v : Int32} (hx : 250 ≤ x ∧ x ≤ 256) : rlI N kd pl vl s t B c (wrI h x k v) := by
  have e (y z : Nat) (n : y < 250) : hi (wrI h x k v) y z = hi h y z := by rw [hi_wrI, if_neg (by omega)]
  refine ⟨⟨a.1.1.cg ⟨fun z => e 229 z (by decide), fun z => e 230 z (by decide), fun z => e 231 z (by decide)⟩, a.1.2.1, ?_, ?_⟩, ?_, ?_, ?_⟩
  · unfold rT
    rw [e 226 13 (by decide), e 226 11 (by decide), e 226 14 (by decide)]
    exact a.1.2.2.1
  · rw [e 226 12 (by decide)]; exact a.1.2.2.2
  · rw [e 226 39 (by decide)]; exact a.2.1
  · rw [e 226 45 (by decide)]; exact a.2.2.1
  · rw [e 226 19 (by decide)]; exact a.2.2.2
theorem kB.w {x k : Nat} {v : Int32} (hx : 252 ≤ x ∧ x ≤ 256) (hk : B ≤ k) : kB B c h (wrI h x k v) := ⟨fun a z h1 h2 h3 => by rw [hi_wrI, if_neg (by omega)], fun z hz => ⟨by rw [hi_wrI, if_neg (by omega)], by rw [hi_wrI, if_neg (by omega)]⟩, fun z => by rw [hi_wrI, if_neg (by omega)], fun z => by rw [hi_wrI, if_neg (by omega)]⟩
/-- a term is told, and there is no fault -/
theorem rz_term (X : TX N kd pl vl) (a : rlI N kd pl vl s t B c h) : Pc (F_X12_term n h) (fun q => zR q → ∃ C t', rlI N kd pl vl s t' (B + 1) (c + C.length) q ∧ meE kd vl t C t' ∧ (hi q 255 B).toInt = (c : Int) ∧ (hi q 256 B).toInt = (c : Int) + C.length ∧ rcA (hi q 257) (hi q 258) c C ∧ kB B c h q ∧ hi q 252 B = hi h 252 B ∧ hi q 253 B = hi h 253 B ∧ hi q 254 B = hi h 254 B ∧ B < 260) := by
  have f0 := lit_0
  have f1 := lit_1
  have a39 := a.2.1
  have n9 := ncT (show 0 ≤ (hi h 226 39).toInt by omega)
  have n9' : Int32.toNatClampNeg (hi h 226 39) = B := by omega
  unfold F_X12_term
  refine Pc.chk (fun cb => ?_)
  have b26 : B < 260 := by have := ixO_lt cb; omega
  rw [n9']
  generalize eg : wrI h 255 B (hi h 226 45) = g
  have ag : rlI N kd pl vl s t B c g := by rw [← eg]; exact a.w (by omega)
  have kg : kB B c h g := by rw [← eg]; exact kB.w (by omega) (Nat.le_refl B)
  have g5 : hi g 255 B = hi h 226 45 := hiE eg
  have rg (x k : Nat) (hx : x ≠ 255) : hi g x k = hi h x k := hiA eg x k hx
  have sg := ag.1.2.2.1.2.1
  refine Pc.eq (fun c0 => ?_) (fun c0 => by exfalso; omega)
  refine Pc.ys (rz_sum X ag) (fun q4 _ b => ?_) (fun q => ?_)
  rotate_left
  · refine Pc.ite (fun _ => Pc.ret ?_) (fun _ => Pc.no)
    exact ((zr.rf _).w (by omega)).w (by omega)
  obtain ⟨C, t', b1, b2, b3, b4⟩ := b
  have b39 := b1.2.1
  have m9 := ncT (show 0 ≤ (hi q4 226 39).toInt by omega)
  have m9' : Int32.toNatClampNeg (hi q4 226 39) = B := by omega
  refine Pc.chk (fun _ => ?_)
  rw [m9']
  have e39 : hi (wrI q4 256 B (hi q4 226 45)) 226 39 = hi q4 226 39 := hiA rfl 226 39 (by decide)
  rw [e39]
  refine Pc.ret (fun _ => ?_)
  generalize ew : wrI (wrI q4 256 B (hi q4 226 45)) 226 39 (hi q4 226 39 + 1) = w
  have rw' (x k : Nat) (m1 : ¬ (x = 256 ∧ k = B)) (m2 : ¬ (x = 226 ∧ k = 39)) : hi w x k = hi q4 x k := by rw [← ew, hi_wrI, if_neg m2, hi_wrI, if_neg m1]
  have ad := adT (hi q4 226 39) 1 (by omega) (by omega)
  have bq (x k : Nat) (h1 : 250 ≤ x) (h2 : x ≤ 256) : hi q4 x k = hi g x k := b4.1 x k (by omega) (by omega) (by omega) (by omega)
  refine ⟨C, t', ⟨⟨b1.1.1.cg ⟨fun k => rw' 229 k (by omega) (by omega), fun k => rw' 230 k (by omega) (by omega), fun k => rw' 231 k (by omega) (by omega)⟩, b1.1.2.1, ?_, ?_⟩, ?_, ?_, ?_⟩, b2, ?_, ?_, ?_, ?_, ?_, ?_, ?_, b26⟩
  · unfold rT
    rw [rw' 226 13 (by omega) (by decide), rw' 226 11 (by omega) (by decide), rw' 226 14 (by omega) (by decide)]
    exact b1.1.2.2.1
  · rw [rw' 226 12 (by omega) (by decide)]; exact b1.1.2.2.2
  · rw [← ew, hiE rfl]; omega
  · rw [rw' 226 45 (by omega) (by decide)]; exact b1.2.2.1
  · rw [rw' 226 19 (by omega) (by decide)]; exact b1.2.2.2
  · rw [rw' 255 B (by omega) (by omega), bq 255 B (by decide) (by decide), g5]; exact a.2.2.1
  · rw [← ew, hi_wrI, if_neg (by omega), hiE rfl]
    have := b1.2.2.1
    omega
  · exact b3.2.1.cg (fun k _ _ => ⟨rw' 257 k (by omega) (by omega), rw' 258 k (by omega) (by omega)⟩)
  · refine kg.tr ((b3.kB (B := B) b4).tr (B' := B) (c' := c) ⟨fun x k h1 h2 h3 => rw' x k (by omega) (by omega), fun k _ => ⟨rw' 257 k (by omega) (by omega), rw' 258 k (by omega) (by omega)⟩, fun k => rw' 250 k (by omega) (by omega), fun k => rw' 251 k (by omega) (by omega)⟩ (Nat.le_refl B) (Nat.le_refl c)) (Nat.le_refl B) (Nat.le_refl c)
  · rw [rw' 252 B (by omega) (by omega), bq 252 B (by decide) (by decide), rg 252 B (by decide)]
  · rw [rw' 253 B (by omega) (by omega), bq 253 B (by decide) (by decide), rg 253 B (by decide)]
  · rw [rw' 254 B (by omega) (by omega), bq 254 B (by decide) (by decide), rg 254 B (by decide)]
/-- what a law told lays down -/
def lawR (N : Nat) (kd pl vl : Nat → Int) (s t B c k : Nat) (first : Int32) (h q : Hp) : Prop := ∃ bs f t' c', LW (meE kd vl) kd bs t f t' ∧ kd t' = 59 ∧ rlI N kd pl vl s (t' + 1) (B + bs.length + 1) c' q ∧ c ≤ c' ∧ rlB q c' B bs f ∧ hi q 250 (4 * s + k) = first ∧ (hi q 251 (4 * s + k)).toInt = ((B + bs.length + 1 : Nat) : Int) ∧ (∀ a j, 252 ≤ a → a ≤ 256 → j < B → hi q a j = hi h a j) ∧ (∀ j, j < c → hi q 257 j = hi h 257 j ∧ hi q 258 j = hi h 258 j) ∧ (∀ j, j ≠ 4 * s + k → hi q 250 j = hi h 250 j ∧ hi q 251 j = hi h 251 j)
theorem lawR_end (X : TX N kd pl vl) (a : rlI N kd pl vl s t B c h) (ne : kd t ≠ 19) {k : Nat} {l1 l2 : Int32} (hk : l1.toInt = (k : Int)) (k4 : k < 4) (hs : s ≤ 1) : Pc (if ixOK (hi h 226 39) 260 = true then ((F_X12_term n (wrI h 252 (Int32.toNatClampNeg (hi h 226 39)) 0)).bind (fun q14 => ((F_X12_must n q14 4).bind (fun q16 => (if ((hi q16 226 13) : Int32) ≤ (0 : Int32) then (if ixOK ((4 * (hi q16 226 19)) + l1) 8 = true then (if ixOK ((4 * (hi (wrI q16 250 (Int32.toNatClampNeg ((4 * (hi q16 226 19)) + l1)) l2) 226 19)) + l1) 8 = true then some (wrI (wrI q16 250 (Int32.toNatClampNeg ((4 * (hi q16 226 19)) + l1)) l2) 251 (Int32.toNatClampNeg ((4 * (hi (wrI q16 250 (Int32.toNatClampNeg ((4 * (hi q16 226 19)) + l1)) l2) 226 19)) + l1)) (hi (wrI q16 250 (Int32.toNatClampNeg ((4 * (hi q16 226 19)) + l1)) l2) 226 39)) else none) else none) else some q16))))) else none) (fun q => zR q → lawR N kd pl vl s t B c k l2 h q) := by
  have f0 := lit_0
  have f4 := lit_4
  have a39 := a.2.1
  have n9 := ncT (show 0 ≤ (hi h 226 39).toInt by omega)
  have n9' : Int32.toNatClampNeg (hi h 226 39) = B := by omega
  refine Pc.chk (fun _ => ?_)
  rw [n9']
  generalize eg : wrI h 252 B 0 = g
  have ag : rlI N kd pl vl s t B c g := by rw [← eg]; exact a.w (by omega)
  have kg : kB B c h g := by rw [← eg]; exact kB.w (by omega) (Nat.le_refl B)
  have g2 : hi g 252 B = 0 := hiE eg
  refine Pc.ys (rz_term X ag) (fun q14 _ b => ?_) (fun q => ?_)
  rotate_left
  · refine Pc.yb zb_X12_must (fun q16 => ?_)
    refine Pc.ite (fun _ => Pc.ite (fun _ => Pc.ite (fun _ => Pc.ret (((zr.rf _).w (by omega)).w (by omega))) (fun _ => Pc.no)) (fun _ => Pc.no)) (fun _ => Pc.ret (zr.rf _))
  obtain ⟨C, t', b1, b2, b3, b4, b5, b6, b7, b8, b9, b10⟩ := b
  refine Pc.ys (rz_must X b1 59 (by decide) (by decide) (by decide)) (fun q16 z16 d => ?_) (fun q16 => ?_)
  rotate_left
  · refine Pc.ite (fun _ => Pc.ite (fun _ => Pc.ite (fun _ => Pc.ret (((zr.rf _).w (by omega)).w (by omega))) (fun _ => Pc.no)) (fun _ => Pc.no)) (fun _ => Pc.ret (zr.rf _))
  obtain ⟨d1, d2, d3, d4⟩ := d
  have z' : (hi q16 226 13).toInt = 0 := z16
  refine Pc.le (fun _ => ?_) (fun q => by exfalso; omega)
  have d19 := d1.2.2.2
  have m4 := mlT 4 (hi q16 226 19) 4 f4 (by omega) (by omega)
  have ad := adT (4 * hi q16 226 19) l1 (by omega) (by omega)
  have nn := ncT (show 0 ≤ (4 * hi q16 226 19 + l1).toInt by omega)
  have nn' : Int32.toNatClampNeg (4 * hi q16 226 19 + l1) = 4 * s + k := by omega
  have e19 (v : Int32) (j : Nat) : hi (wrI q16 250 j v) 226 19 = hi q16 226 19 := hiA rfl 226 19 (by decide)
  have e39 (v : Int32) (j : Nat) : hi (wrI q16 250 j v) 226 39 = hi q16 226 39 := hiA rfl 226 39 (by decide)
  rw [e19, e39, nn']
  refine Pc.chk (fun _ => Pc.chk (fun _ => Pc.ret (fun _ => ?_)))
  generalize ew : wrI (wrI q16 250 (4 * s + k) l2) 251 (4 * s + k) (hi q16 226 39) = w
  have rw' (x j : Nat) (m : ¬ ((x = 250 ∨ x = 251) ∧ j = 4 * s + k)) : hi w x j = hi q16 x j := by rw [← ew, hi_wrI, if_neg (by omega), hi_wrI, if_neg (by omega)]
  have rq (x j : Nat) (m1 : 250 ≤ x) : hi q16 x j = hi q14 x j := d3.1 x j (by omega)
  have KB : kB B c h q14 := kg.tr b6 (Nat.le_refl B) (Nat.le_refl c)
  have l0 : ([] : List ((List Int32 × List Int32) × List Int32)).length = 0 := rfl
  refine ⟨[], C, t', c + C.length, ⟨ne, b2⟩, d2, ?_, by omega, ?_, ?_, ?_, fun x j h1 h2 h3 => ?_, fun j hj => ⟨?_, ?_⟩, fun j hj => ⟨?_, ?_⟩⟩
  · have := (d1.w (x := 250) (k := 4 * s + k) (v := l2) (by omega)).w (x := 251) (k := 4 * s + k) (v := hi q16 226 39) (by omega)
    rw [ew] at this
    exact this
  · refine ⟨?_, c, ?_, ?_, ?_, by omega⟩
    · rw [rw' 252 B (by omega), rq 252 B (by decide), b7, g2]; decide
    · rw [rw' 255 B (by omega), rq 255 B (by decide)]; exact b3
    · rw [rw' 256 B (by omega), rq 256 B (by decide)]; exact b4
    · exact b5.cg (fun j _ _ => ⟨by rw [rw' 257 j (by omega), rq 257 j (by decide)], by rw [rw' 258 j (by omega), rq 258 j (by decide)]⟩)
  · rw [← ew, hi_wrI, if_neg (by omega), hiE rfl]
  · rw [← ew, hiE rfl, l0]; exact d1.2.1
  · rw [rw' x j (by omega), rq x j (by omega)]; exact KB.1 x j h1 h2 h3
  · rw [rw' 257 j (by omega), rq 257 j (by decide)]; exact (KB.2.1 j hj).1
  · rw [rw' 258 j (by omega), rq 258 j (by decide)]; exact (KB.2.1 j hj).2
  · rw [rw' 250 j (by omega), rq 250 j (by decide)]; exact KB.2.2.1 j
  · rw [rw' 251 j (by omega), rq 251 j (by decide)]; exact KB.2.2.2 j
set_option maxHeartbeats 8000000 in
theorem qr_lawL (X : TX N kd pl vl) {k : Nat} {l1 l2 : Int32} (hk : l1.toInt = (k : Int)) (k4 : k < 4) (hs : s ≤ 1) : ∀ (n : Nat) (h : Hp) (l3 : Int32) (t B c : Nat), rlI N kd pl vl s t B c h → 0 ≤ l3.toInt → l3.toInt ≤ 4 → Pc (W_X12_tellLaw n 12 h l1 l2 l3) (fun q => zR q → lawR N kd pl vl s t B c k l2 h q) := by
  have f0 := lit_0
  have f1 := lit_1
  have f2 := lit_2
  have f4 := lit_4
  have vb1 : (vp_nar .boolean (1 : Int32)).toInt = 1 := by decide
  intro n
  induction n with
  | zero => intro h l3 t B c a b1 b2; exact Pc.no
  | succ n ih =>
    intro h l3 t B c a p1 p2
    rw [u_X12_tellLaw]
    refine Pc.pos rfl ?_
    have s1 := a.1.2.2.1.2.1
    refine Pc.eq (fun c0 => ?_) (fun c0 => by exfalso; omega)
    refine Pc.bind (pr_is X a.1.1 a.1.2.1 a.1.2.2.1 19 (by decide) (by decide)) (fun q10 h10 => ?_)
    rw [h10.1]
    refine Pc.eq (fun c1 => lawR_end X a (fun z => h10.2.mpr ⟨rfl, z⟩ (c1.trans f0)) hk k4 hs) (fun c1 => ?_)
    have ek : kd t = 19 := (h10.2.mp (by omega)).2
    have a1 := adT l3 1 (by omega) (by omega)
    refine Pc.eq (fun c2 => ?_) (fun c2 => ?_)
    · refine Pc.bind (pr_fail a.1.1 a.1.2.1 a.1.2.2.1 (by decide)) (fun q47 h47 => ?_)
      have s47 := h47.2
      rw [if_pos rfl, f2] at s47
      have g1 := s47.2.1
      refine Pc.le (fun c3 => by exfalso; omega) (fun c3 => Pc.ret (fun z => ?_))
      exfalso
      unfold zR at z
      omega
    · refine Pc.le (fun c3 => ?_) (fun c3 => by exfalso; omega)
      refine Pc.ys (rz_goes X a (by omega)) (fun q23 _ b => ?_) (fun q => ?_)
      rotate_left
      · (repeat (first | refine Pc.ite (fun _ => ?_) (fun _ => ?_) | exact Pc.no | refine Pc.yb zb_X12_must (fun _ => ?_) | refine Pc.yb zb_X12_expression (fun _ => ?_) | refine Pc.yb zb_X12_term (fun _ => ?_) | refine Pc.yb ((zb_X12_must).mono (fun _ m => (((zr.rf _).w (by omega)).tr m))) (fun _ => ?_) | refine Pc.yb ((zb_X12_expression).mono (fun _ m => (((zr.rf _).w (by omega)).tr m))) (fun _ => ?_) | refine Pc.yb ((zb_X12_expression).mono (fun _ m => ((((zr.rf _).w (by omega)).w (by omega)).tr m))) (fun _ => ?_) | exact Pc.ret (zr.rf _) | exact Pc.ret ((zr.rf _).w (by omega)) | exact Pc.ret (((zr.rf _).w (by omega)).w (by omega)) | exact zv_X12_tellLaw _ _ _ _ _ _))
      obtain ⟨b1, b2, b3⟩ := b
      have b39 := b1.2.1
      have n9 := ncT (show 0 ≤ (hi q23 226 39).toInt by omega)
      have n9' : Int32.toNatClampNeg (hi q23 226 39) = B := by omega
      refine Pc.chk (fun _ => ?_)
      have e39 (v : Int32) (j : Nat) : hi (wrI q23 252 j v) 226 39 = hi q23 226 39 := hiA rfl 226 39 (by decide)
      have e45 (v : Int32) (j : Nat) : hi (wrI q23 252 j v) 226 45 = hi q23 226 45 := hiA rfl 226 45 (by decide)
      rw [e39, e45, n9']
      refine Pc.chk (fun _ => ?_)
      generalize eg : wrI (wrI q23 252 B 1) 253 B (hi q23 226 45) = g
      have ag : rlI N kd pl vl s (t + 1) B c g := by rw [← eg]; exact (b1.w (by omega)).w (by omega)
      have kg : kB B c h g := by
        rw [← eg]
        exact (b2.kB.tr (kB.w (x := 252) (v := 1) (by omega) (Nat.le_refl B)) (Nat.le_refl B) (Nat.le_refl c)).tr (kB.w (by omega) (Nat.le_refl B)) (Nat.le_refl B) (Nat.le_refl c)
      have g52 : hi g 252 B = 1 := by rw [← eg, hi_wrI, if_neg (by omega), hiE rfl]
      have g53 : hi g 253 B = hi q23 226 45 := hiE eg
      refine Pc.ys (rz_sum X ag) (fun q27 _ b => ?_) (fun q => ?_)
      rotate_left
      · (repeat (first | refine Pc.ite (fun _ => ?_) (fun _ => ?_) | exact Pc.no | refine Pc.yb zb_X12_must (fun _ => ?_) | refine Pc.yb zb_X12_expression (fun _ => ?_) | refine Pc.yb zb_X12_term (fun _ => ?_) | refine Pc.yb ((zb_X12_must).mono (fun _ m => (((zr.rf _).w (by omega)).tr m))) (fun _ => ?_) | refine Pc.yb ((zb_X12_expression).mono (fun _ m => (((zr.rf _).w (by omega)).tr m))) (fun _ => ?_) | refine Pc.yb ((zb_X12_expression).mono (fun _ m => ((((zr.rf _).w (by omega)).w (by omega)).tr m))) (fun _ => ?_) | exact Pc.ret (zr.rf _) | exact Pc.ret ((zr.rf _).w (by omega)) | exact Pc.ret (((zr.rf _).w (by omega)).w (by omega)) | exact zv_X12_tellLaw _ _ _ _ _ _))
      obtain ⟨x, t1, d1, d2, d3, d4⟩ := b
      refine Pc.ys (rz_must X d1 60 (by decide) (by decide) (by decide)) (fun q29 z29 b => ?_) (fun q => ?_)
      rotate_left
      · (repeat (first | refine Pc.ite (fun _ => ?_) (fun _ => ?_) | exact Pc.no | refine Pc.yb zb_X12_must (fun _ => ?_) | refine Pc.yb zb_X12_expression (fun _ => ?_) | refine Pc.yb zb_X12_term (fun _ => ?_) | refine Pc.yb ((zb_X12_must).mono (fun _ m => (((zr.rf _).w (by omega)).tr m))) (fun _ => ?_) | refine Pc.yb ((zb_X12_expression).mono (fun _ m => (((zr.rf _).w (by omega)).tr m))) (fun _ => ?_) | refine Pc.yb ((zb_X12_expression).mono (fun _ m => ((((zr.rf _).w (by omega)).w (by omega)).tr m))) (fun _ => ?_) | exact Pc.ret (zr.rf _) | exact Pc.ret ((zr.rf _).w (by omega)) | exact Pc.ret (((zr.rf _).w (by omega)).w (by omega)) | exact zv_X12_tellLaw _ _ _ _ _ _))
      obtain ⟨e1, e2, e3, e4⟩ := b
      have e39' := e1.2.1
      have m9 := ncT (show 0 ≤ (hi q29 226 39).toInt by omega)
      have m9' : Int32.toNatClampNeg (hi q29 226 39) = B := by omega
      refine Pc.chk (fun _ => ?_)
      rw [m9']
      generalize ev : wrI q29 254 B (hi q29 226 45) = v
      have av : rlI N kd pl vl s (t1 + 1) B (c + x.length) v := by rw [← ev]; exact e1.w (by omega)
      have v54 : hi v 254 B = hi q29 226 45 := hiE ev
      have rv (y j : Nat) (m : y ≠ 254) : hi v y j = hi q29 y j := hiA ev y j m
      have zv : (hi v 226 13).toInt = 0 := av.1.2.2.1.2.1
      refine Pc.eq (fun c4 => ?_) (fun c4 => by exfalso; omega)
      refine Pc.ys (rz_sum X av) (fun q39 _ b => ?_) (fun q => ?_)
      rotate_left
      · (repeat (first | refine Pc.ite (fun _ => ?_) (fun _ => ?_) | exact Pc.no | refine Pc.yb zb_X12_must (fun _ => ?_) | refine Pc.yb zb_X12_expression (fun _ => ?_) | refine Pc.yb zb_X12_term (fun _ => ?_) | refine Pc.yb ((zb_X12_must).mono (fun _ m => (((zr.rf _).w (by omega)).tr m))) (fun _ => ?_) | refine Pc.yb ((zb_X12_expression).mono (fun _ m => (((zr.rf _).w (by omega)).tr m))) (fun _ => ?_) | refine Pc.yb ((zb_X12_expression).mono (fun _ m => ((((zr.rf _).w (by omega)).w (by omega)).tr m))) (fun _ => ?_) | exact Pc.ret (zr.rf _) | exact Pc.ret ((zr.rf _).w (by omega)) | exact Pc.ret (((zr.rf _).w (by omega)).w (by omega)) | exact zv_X12_tellLaw _ _ _ _ _ _))
      obtain ⟨y, t2, i1, i2, i3, i4⟩ := b
      refine Pc.ys (rz_must X i1 20 (by decide) (by decide) (by decide)) (fun q41 _ b => ?_) (fun q => ?_)
      rotate_left
      · (repeat (first | refine Pc.ite (fun _ => ?_) (fun _ => ?_) | exact Pc.no | refine Pc.yb zb_X12_must (fun _ => ?_) | refine Pc.yb zb_X12_expression (fun _ => ?_) | refine Pc.yb zb_X12_term (fun _ => ?_) | refine Pc.yb ((zb_X12_must).mono (fun _ m => (((zr.rf _).w (by omega)).tr m))) (fun _ => ?_) | refine Pc.yb ((zb_X12_expression).mono (fun _ m => (((zr.rf _).w (by omega)).tr m))) (fun _ => ?_) | refine Pc.yb ((zb_X12_expression).mono (fun _ m => ((((zr.rf _).w (by omega)).w (by omega)).tr m))) (fun _ => ?_) | exact Pc.ret (zr.rf _) | exact Pc.ret ((zr.rf _).w (by omega)) | exact Pc.ret (((zr.rf _).w (by omega)).w (by omega)) | exact zv_X12_tellLaw _ _ _ _ _ _))
      obtain ⟨j1, j2, j3, j4⟩ := b
      refine Pc.ys (rz_term X j1) (fun q43 _ b => ?_) (fun q => ?_)
      rotate_left
      · (repeat (first | refine Pc.ite (fun _ => ?_) (fun _ => ?_) | exact Pc.no | refine Pc.yb zb_X12_must (fun _ => ?_) | refine Pc.yb zb_X12_expression (fun _ => ?_) | refine Pc.yb zb_X12_term (fun _ => ?_) | refine Pc.yb ((zb_X12_must).mono (fun _ m => (((zr.rf _).w (by omega)).tr m))) (fun _ => ?_) | refine Pc.yb ((zb_X12_expression).mono (fun _ m => (((zr.rf _).w (by omega)).tr m))) (fun _ => ?_) | refine Pc.yb ((zb_X12_expression).mono (fun _ m => ((((zr.rf _).w (by omega)).w (by omega)).tr m))) (fun _ => ?_) | exact Pc.ret (zr.rf _) | exact Pc.ret ((zr.rf _).w (by omega)) | exact Pc.ret (((zr.rf _).w (by omega)).w (by omega)) | exact zv_X12_tellLaw _ _ _ _ _ _))
      obtain ⟨C, t3, k1, k2, k3, k4', k5, k6, k7, k8, k9, k10⟩ := b
      refine Pc.ys (rz_must X k1 21 (by decide) (by decide) (by decide)) (fun q45 _ b => ?_) (fun q => ?_)
      rotate_left
      · (repeat (first | refine Pc.ite (fun _ => ?_) (fun _ => ?_) | exact Pc.no | refine Pc.yb zb_X12_must (fun _ => ?_) | refine Pc.yb zb_X12_expression (fun _ => ?_) | refine Pc.yb zb_X12_term (fun _ => ?_) | refine Pc.yb ((zb_X12_must).mono (fun _ m => (((zr.rf _).w (by omega)).tr m))) (fun _ => ?_) | refine Pc.yb ((zb_X12_expression).mono (fun _ m => (((zr.rf _).w (by omega)).tr m))) (fun _ => ?_) | refine Pc.yb ((zb_X12_expression).mono (fun _ m => ((((zr.rf _).w (by omega)).w (by omega)).tr m))) (fun _ => ?_) | exact Pc.ret (zr.rf _) | exact Pc.ret ((zr.rf _).w (by omega)) | exact Pc.ret (((zr.rf _).w (by omega)).w (by omega)) | exact zv_X12_tellLaw _ _ _ _ _ _))
      obtain ⟨m1, m2, m3, m4⟩ := b
      refine (ih q45 (l3 + 1) (t3 + 1) (B + 1) (c + x.length + y.length + C.length) m1 (by omega) (by omega)).mono (fun q hq z => ?_)
      obtain ⟨bs, f, t', c', o1, o2, o3, o4, o5, o6, o7, o8, o9, o10⟩ := hq z
      have lb : (((x, y), C) :: bs).length = bs.length + 1 := rfl
      have eB : B + (((x, y), C) :: bs).length + 1 = B + 1 + bs.length + 1 := by omega
      -- what lies at B, and below
      have q7 (j : Nat) (hj : j < c + x.length + y.length + C.length) : hi q 257 j = hi q43 257 j ∧ hi q 258 j = hi q43 258 j := by
        rw [(o9 j hj).1, (o9 j hj).2, m3.1 257 j (by omega), m3.1 258 j (by omega)]
        exact ⟨rfl, rfl⟩
      have qb (a : Nat) (h1 : 252 ≤ a) (h2 : a ≤ 256) : hi q a B = hi q43 a B := by
        rw [o8 a B h1 h2 (by omega), m3.1 a B (by omega)]
      have q41b (a : Nat) (h1 : 252 ≤ a) (h2 : a ≤ 256) : hi q41 a B = hi v a B := by
        rw [j3.1 a B (by omega), i4.1 a B (by omega) (by omega) (by omega) (by omega)]
      have q29b (a : Nat) (h1 : 252 ≤ a) (h2 : a ≤ 256) : hi q29 a B = hi g a B := by
        rw [e3.1 a B (by omega), d4.1 a B (by omega) (by omega) (by omega) (by omega)]
      have K1 : kB B c h q29 := kg.tr ((d3.kB (B := B) d4).tr (B' := B) (c' := c) e3.kB (Nat.le_refl B) (Nat.le_refl c)) (Nat.le_refl B) (Nat.le_refl c)
      have K2 : kB B c h v := K1.tr (B' := B) (c' := c) (by rw [← ev]; exact kB.w (by omega) (Nat.le_refl B)) (Nat.le_refl B) (Nat.le_refl c)
      have K3 : kB B c h q41 := K2.tr ((i3.kB (B := B) i4).tr (B' := B) (c' := c + x.length) j3.kB (Nat.le_refl B) (Nat.le_refl _)) (Nat.le_refl B) (by omega)
      have K4 : kB B c h q45 := (K3.tr k6 (Nat.le_refl B) (by omega)).tr (B' := B) (c' := c) m3.kB (Nat.le_refl B) (Nat.le_refl c)
      have c29 := e1.2.2.1
      have x7 : rcA (hi q29 257) (hi q29 258) c x := d3.2.1.cg (fun j _ _ => ⟨e3.1 257 j (by omega), e3.1 258 j (by omega)⟩)
      have xv : rcA (hi v 257) (hi v 258) c x := x7.cg (fun j _ _ => ⟨rv 257 j (by decide), rv 258 j (by decide)⟩)
      have x39 : rcA (hi q39 257) (hi q39 258) c x := xv.cg (fun j _ h2 => i3.2.2 j h2)
      have x41 : rcA (hi q41 257) (hi q41 258) c x := x39.cg (fun j _ _ => ⟨j3.1 257 j (by omega), j3.1 258 j (by omega)⟩)
      have y41 : rcA (hi q41 257) (hi q41 258) (c + x.length) y := i3.2.1.cg (fun j _ _ => ⟨j3.1 257 j (by omega), j3.1 258 j (by omega)⟩)
      refine ⟨((x, y), C) :: bs, f, t', c', ⟨ek, t1, t2, t3, d2, e2, i2, j2, k2, m2, o1⟩, o2, by rw [eB]; exact o3, by omega, ⟨⟨?_, c, ?_, ?_, ?_, ?_, ?_, ?_, ?_, o4⟩, o5⟩, o6, by rw [eB]; exact o7, fun a j h1 h2 h3 => ?_, fun j hj => ⟨?_, ?_⟩, fun j hj => ⟨?_, ?_⟩⟩
      · rw [qb 252 (by decide) (by decide), k7, q41b 252 (by decide) (by decide), rv 252 B (by decide), q29b 252 (by decide) (by decide), g52, vb1]; decide
      · rw [qb 253 (by decide) (by decide), k8, q41b 253 (by decide) (by decide), rv 253 B (by decide), q29b 253 (by decide) (by decide), g53]; exact b1.2.2.1
      · rw [qb 254 (by decide) (by decide), k9, q41b 254 (by decide) (by decide), v54, c29]; omega
      · rw [qb 255 (by decide) (by decide), k3]; omega
      · rw [qb 256 (by decide) (by decide), k4']
      · exact x41.cg (fun j _ h2 => by rw [(q7 j (by omega)).1, (q7 j (by omega)).2]; exact k6.2.1 j (by omega))
      · exact y41.cg (fun j _ h2 => by rw [(q7 j (by omega)).1, (q7 j (by omega)).2]; exact k6.2.1 j (by omega))
      · exact k5.cg (fun j _ h2 => q7 j (by omega))
      · rw [o8 a j h1 h2 (by omega)]; exact K4.1 a j h1 h2 h3
      · rw [(o9 j (by omega)).1]; exact (K4.2.1 j hj).1
      · rw [(o9 j (by omega)).2]; exact (K4.2.1 j hj).2
      · rw [(o10 j hj).1]; exact K4.2.2.1 j
      · rw [(o10 j hj).2]; exact K4.2.2.2 j
/-- a law, told: behind its word -/
theorem qr_law (X : TX N kd pl vl) (a : rlI N kd pl vl s t B c h) {k : Nat} {x1 : Int32} (hk : x1.toInt = (k : Int)) (k4 : k < 4) (hs : s ≤ 1) : Pc (F_X12_tellLaw n h x1) (fun q => zR q → ∃ bs f t' c', kd t = 61 ∧ LW (meE kd vl) kd bs (t + 1) f t' ∧ kd t' = 59 ∧ rlI N kd pl vl s (t' + 1) (B + bs.length + 1) c' q ∧ c ≤ c' ∧ rlB q c' B bs f ∧ (hi q 250 (4 * s + k)).toInt = (B : Int) ∧ (hi q 251 (4 * s + k)).toInt = ((B + bs.length + 1 : Nat) : Int) ∧ (∀ a j, 252 ≤ a → a ≤ 256 → j < B → hi q a j = hi h a j) ∧ (∀ j, j < c → hi q 257 j = hi h 257 j ∧ hi q 258 j = hi h 258 j) ∧ (∀ j, j ≠ 4 * s + k → hi q 250 j = hi h 250 j ∧ hi q 251 j = hi h 251 j)) := by
  have f0 := lit_0
  unfold F_X12_tellLaw
  refine Pc.ys (rz_must X a 61 (by decide) (by decide) (by decide)) (fun q _ b => ?_) (fun q => zv_X12_tellLaw _ _ _ _ _ _)
  obtain ⟨b1, b2, b3, b4⟩ := b
  have b39 := b1.2.1
  refine (qr_lawL X hk k4 hs n q 0 (t + 1) B c b1 (by omega) (by omega)).mono (fun r hr z => ?_)
  obtain ⟨bs, f, t', c', o1, o2, o3, o4, o5, o6, o7, o8, o9, o10⟩ := hr z
  refine ⟨bs, f, t', c', b2, o1, o2, o3, o4, o5, by rw [o6]; exact b39, o7, fun x j h1 h2 h3 => ?_, fun j hj => ⟨?_, ?_⟩, fun j hj => ⟨?_, ?_⟩⟩
  · rw [o8 x j h1 h2 h3, b3.1 x j (by omega)]
  · rw [(o9 j hj).1, b3.1 257 j (by omega)]
  · rw [(o9 j hj).2, b3.1 258 j (by omega)]
  · rw [(o10 j hj).1, b3.1 250 j (by omega)]
  · rw [(o10 j hj).2, b3.1 251 j (by omega)]
end RL
end
section
/-! WHAT A TEXT TELLS, so far -/
abbrev LWS : Type := List ((List Int32 × List Int32) × List Int32) × List Int32
/-- the lawn, tunes (where; beat, offset), goers, ropes, wet and seed, laws -/
abbrev TT : Type := (Int × Int) × (List ((Int × Int) × (Int × Int)) × (List (Int × Int) × (List (Int × Int) × ((Int × Int) × (Nat → Option LWS)))))
def TT.lw (T : TT) : Int × Int := T.1
def TT.tn (T : TT) : List ((Int × Int) × (Int × Int)) := T.2.1
def TT.go (T : TT) : List (Int × Int) := T.2.2.1
def TT.ro (T : TT) : List (Int × Int) := T.2.2.2.1
def TT.ws (T : TT) : Int × Int := T.2.2.2.2.1
def TT.la (T : TT) : Nat → Option LWS := T.2.2.2.2.2
def TT.mk (a : Int × Int) (b : List ((Int × Int) × (Int × Int))) (c d : List (Int × Int)) (e : Int × Int) (f : Nat → Option LWS) : TT := (a, b, c, d, e, f)
/-- ahead of all -/
def TT0 : TT := TT.mk (4, 4) [] [] [] (0, 0) (fun _ => none)
def updL (f : Nat → Option LWS) (k : Nat) (v : LWS) : Nat → Option LWS := fun j => if j = k then some v else f j
/-- one statement -/
def STP (kd vl : Nat → Int) (T : TT) (t : Nat) (T' : TT) (t' : Nat) : Prop :=
  (kd t = 9 ∧ T' = TT.mk (vl (t + 1), vl (t + 2)) T.tn T.go T.ro T.ws T.la ∧ t' = t + 4) ∨
  (kd t = 10 ∧ T' = TT.mk T.lw (T.tn ++ [((vl (t + 1), vl (t + 2)), (vl (t + 3), vl (t + 4)))]) T.go T.ro T.ws T.la ∧ t' = t + 6) ∨
  (kd t = 11 ∧ T' = TT.mk T.lw T.tn (T.go ++ [(vl (t + 2), vl (t + 3))]) T.ro T.ws T.la ∧ t' = t + 5) ∨
  (kd t = 12 ∧ T' = TT.mk T.lw T.tn T.go (T.ro ++ [(vl (t + 1), vl (t + 2))]) T.ws T.la ∧ t' = t + 4) ∨
  (kd t = 17 ∧ T' = TT.mk T.lw T.tn T.go T.ro (vl (t + 1), T.ws.2) T.la ∧ t' = t + 3) ∨
  (kd t = 18 ∧ T' = TT.mk T.lw T.tn T.go T.ro (T.ws.1, vl (t + 1)) T.la ∧ t' = t + 3) ∨
  (13 ≤ kd t ∧ kd t ≤ 16 ∧ ∃ bs f t1, LW (meE kd vl) kd bs (t + 2) f t1 ∧ T' = TT.mk T.lw T.tn T.go T.ro T.ws (updL T.la (kd t - 13).toNat (bs, f)) ∧ t' = t1 + 1)
theorem STP.uniq {kd vl : Nat → Int} {T T1 T2 : TT} {t t1 t2 : Nat} (a : STP kd vl T t T1 t1) (b : STP kd vl T t T2 t2) : T1 = T2 ∧ t1 = t2 := by
  rcases a with ⟨k, e, f⟩ | ⟨k, e, f⟩ | ⟨k, e, f⟩ | ⟨k, e, f⟩ | ⟨k, e, f⟩ | ⟨k, e, f⟩ | ⟨k, k2, bs, g, u, l, e, f⟩ <;> rcases b with ⟨j, x, y⟩ | ⟨j, x, y⟩ | ⟨j, x, y⟩ | ⟨j, x, y⟩ | ⟨j, x, y⟩ | ⟨j, x, y⟩ | ⟨j, j2, bs', g', u', l', x, y⟩ <;> first | (exfalso; omega) | exact ⟨e.trans x.symm, f.trans y.symm⟩ | skip
  obtain ⟨e1, e2, e3⟩ := LW.uniq me_u l l'
  subst e1 e2 e3
  exact ⟨e.trans x.symm, f.trans y.symm⟩
/-- m statements -/
def TLD (kd vl : Nat → Int) : Nat → TT → Nat → TT → Nat → Prop
  | 0, T, t, T', t' => T' = T ∧ t' = t
  | m + 1, T, t, T', t' => ∃ T1 t1, STP kd vl T t T1 t1 ∧ TLD kd vl m T1 t1 T' t'
theorem TLD.uniq {kd vl : Nat → Int} : ∀ {m m' : Nat} {T T1 T2 : TT} {t t1 t2 : Nat}, TLD kd vl m T t T1 t1 → TLD kd vl m' T t T2 t2 → kd t1 = 32 → kd t2 = 32 → T1 = T2 ∧ t1 = t2 := by
  have no {T T' : TT} {t t' : Nat} (a : STP kd vl T t T' t') (e : kd t = 32) : False := by
    rcases a with ⟨k, _⟩ | ⟨k, _⟩ | ⟨k, _⟩ | ⟨k, _⟩ | ⟨k, _⟩ | ⟨k, _⟩ | ⟨k, k2, _⟩ <;> omega
  intro m
  induction m with
  | zero =>
    intro m' T T1 T2 t t1 t2 a b e1 e2
    obtain ⟨a1, a2⟩ := a
    subst a1 a2
    cases m' with
    | zero => exact ⟨b.1.symm, b.2.symm⟩
    | succ m' =>
      obtain ⟨U, u, b1, b2⟩ := b
      exact absurd e1 (fun z => no b1 z)
  | succ m ih =>
    intro m' T T1 T2 t t1 t2 a b e1 e2
    obtain ⟨U, u, a1, a2⟩ := a
    cases m' with
    | zero =>
      obtain ⟨b1, b2⟩ := b
      subst b1 b2
      exact absurd e2 (fun z => no a1 z)
    | succ m' =>
      obtain ⟨V, v, b1, b2⟩ := b
      obtain ⟨x, y⟩ := a1.uniq b1
      subst x y
      exact ih a2 b2 e1 e2
theorem TLD.snoc {kd vl : Nat → Int} : ∀ {m : Nat} {T T1 T2 : TT} {t t1 t2 : Nat}, TLD kd vl m T t T1 t1 → STP kd vl T1 t1 T2 t2 → TLD kd vl (m + 1) T t T2 t2 := by
  intro m
  induction m with
  | zero =>
    intro T T1 T2 t t1 t2 a b
    obtain ⟨a1, a2⟩ := a
    subst a1 a2
    exact ⟨T2, t2, b, rfl, rfl⟩
  | succ m ih =>
    intro T T1 T2 t t1 t2 a b
    obtain ⟨U, u, a1, a2⟩ := a
    exact ⟨U, u, a1, ih a2 b⟩
/-- the last tune told of a spot -/
def lastT (l : List ((Int × Int) × (Int × Int))) (c : Nat) : Option (Int × Int) := l.foldl (fun a x => if x.1.1 + 5 * x.1.2 = (c : Int) then some x.2 else a) none
theorem lastT_snoc {l : List ((Int × Int) × (Int × Int))} {x : (Int × Int) × (Int × Int)} {c : Nat} : lastT (l ++ [x]) c = if x.1.1 + 5 * x.1.2 = (c : Int) then some x.2 else lastT l c := by
  unfold lastT
  rw [List.foldl_append]; rfl
/-- what is told is within bounds -/
def sp5 (p : Int × Int) : Prop := (0 ≤ p.1 ∧ p.1 ≤ 4) ∧ 0 ≤ p.2 ∧ p.2 ≤ 4
def VT (T : TT) : Prop := ((2 ≤ T.lw.1 ∧ T.lw.1 ≤ 5) ∧ 2 ≤ T.lw.2 ∧ T.lw.2 ≤ 5) ∧ (T.tn.length ≤ 8 ∧ ∀ x ∈ T.tn, sp5 x.1 ∧ (2 ≤ x.2.1 ∧ x.2.1 ≤ 6) ∧ 0 ≤ x.2.2 ∧ x.2.2 < x.2.1) ∧ (T.go.length ≤ 5 ∧ ∀ x ∈ T.go, sp5 x) ∧ (T.ro.length ≤ 8 ∧ ∀ x ∈ T.ro, sp5 x) ∧ ((0 ≤ T.ws.1 ∧ T.ws.1 ≤ 100) ∧ 0 ≤ T.ws.2 ∧ T.ws.2 ≤ 9999) ∧ ∀ k b, T.la k = some b → gdB 16 b.1 ∧ gdC 16 b.2
/-! the class's draft -/
/-- a field -/
def FLD (h : Hp) (a w g : Nat) : Prop := (hi h a 0).toInt = (w : Int) ∧ (hi h a 1).toInt = (g : Int) ∧ (∀ i, i < 32 → bt (hi h a 2) i = decide (i < w * g)) ∧ ∀ i, i < 32 → bt (hi h a 3) i = decide (i % w = 0 ∧ i < w * g)
def plW4 (k : Nat) : Int32 := if k = 0 ∨ k = 2 then 0 else 1
/-- a law that isn't told -/
def lawD (f : Nat → Option LWS) (k : Nat) : LWS := (f k).getD ([], [plW4 k])
def ctW (p : Int × Int) (h : Hp) : Prop := FLD h 4 p.1.toNat p.2.toNat
def ctT (l : List ((Int × Int) × (Int × Int))) (h : Hp) : Prop := (hi h 2 13).toInt = (l.length : Int) ∧ ∀ c, c < 25 → (lastT l c = none → (hi h 16 c).toInt = 0) ∧ ∀ q, lastT l c = some q → (hi h 16 c).toInt = q.1 ∧ (hi h 17 c).toInt = q.2
def ctG (l : List (Int × Int)) (h : Hp) : Prop := (hi h 3 2).toInt = (l.length : Int) ∧ ∀ g, g < l.length → (hi h 15 g).toInt = (l.getD g (0, 0)).1 + 5 * (l.getD g (0, 0)).2
def ctR (l : List (Int × Int)) (h : Hp) : Prop := (hi h 2 14).toInt = (l.length : Int) ∧ ∀ c, c < 25 → (bt (hi h 2 12) c = true ↔ ∃ p ∈ l, p.1 + 5 * p.2 = (c : Int))
def ctN (p : Int × Int) (h : Hp) : Prop := (hi h 3 3).toInt = p.1 ∧ (hi h 3 4).toInt = p.2
/-- the laws laid down, S orders in all -/
def ctL (f : Nat → Option LWS) (S : Nat) (h : Hp) : Prop := osN h S ∧ ∀ k, k < 4 → ∃ p : Nat, (hi h 7 k).toInt = (p : Int) ∧ clO (hi h 6) S p (lawD f k).1 (lawD f k).2
def cD (T : TT) (t : Nat) (h : Hp) : Prop := (ctW T.lw h ∧ ctT T.tn h ∧ ctG T.go h ∧ ctR T.ro h ∧ ctN T.ws h) ∧ (∃ S, ctL T.la S h ∧ S ≤ 4 + t) ∧ VT T
section CD
variable {h q : Hp} {A : Nat → Nat → Prop}
theorem ctW.cg {p : Int × Int} (a : ctW p h) (e : ∀ k, hi q 4 k = hi h 4 k) : ctW p q := by
  unfold ctW FLD at *
  rw [e, e, e, e]
  exact a
theorem ctT.cg {l : List ((Int × Int) × (Int × Int))} (a : ctT l h) (e : hi q 2 13 = hi h 2 13) (e1 : ∀ k, hi q 16 k = hi h 16 k) (e2 : ∀ k, hi q 17 k = hi h 17 k) : ctT l q := ⟨by rw [e]; exact a.1, fun c hc => by rw [e1, e2]; exact a.2 c hc⟩
theorem ctG.cg {l : List (Int × Int)} (a : ctG l h) (e : hi q 3 2 = hi h 3 2) (e1 : ∀ k, hi q 15 k = hi h 15 k) : ctG l q := ⟨by rw [e]; exact a.1, fun c hc => by rw [e1]; exact a.2 c hc⟩
theorem ctR.cg {l : List (Int × Int)} (a : ctR l h) (e : hi q 2 14 = hi h 2 14) (e1 : hi q 2 12 = hi h 2 12) : ctR l q := ⟨by rw [e]; exact a.1, fun c hc => by rw [e1]; exact a.2 c hc⟩
theorem ctN.cg {p : Int × Int} (a : ctN p h) (e : hi q 3 3 = hi h 3 3) (e1 : hi q 3 4 = hi h 3 4) : ctN p q := by
  unfold ctN at *
  rw [e, e1]
  exact a
theorem ctL.cg {f : Nat → Option LWS} {S : Nat} (a : ctL f S h) (e : hi q 5 3 = hi h 5 3) (e6 : ∀ k, hi q 6 k = hi h 6 k) (e7 : ∀ k, hi q 7 k = hi h 7 k) : ctL f S q := by
  refine ⟨by unfold osN; rw [e]; exact a.1, fun k hk => ?_⟩
  obtain ⟨p, p1, p2⟩ := a.2 k hk
  exact ⟨p, by rw [e7]; exact p1, p2.cg (Nat.le_refl S) (fun j _ => e6 j)⟩
end CD
/-! the class's field, laid -/
theorem lay_bits : ∀ w, w < 6 → ∀ g, g < 6 → ∀ i, i < 32 → bt (((1 : Int32) <<< (Int32.ofNat (w * g) &&& 31)) - 1) i = decide (i < w * g) := by decide +kernel
theorem fld_loop {a w g : Nat} (hw : 2 ≤ w ∧ w ≤ 5) (hg : 2 ≤ g ∧ g ≤ 5) {l1 l2 : Int32} : ∀ (n : Nat) (h : Hp) (l3 : Int32) (y : Nat), (hi h a 0).toInt = (w : Int) → (hi h a 1).toInt = (g : Int) → l3.toInt = (y : Int) → y ≤ g → (∀ i, i < 32 → bt (hi h a 3) i = decide (i % w = 0 ∧ i < w * y)) → Pc (W_X3_lay n 17 h a l1 l2 l3) (fun q => FLD q a w g ∧ frZ (fun x k => x = a ∧ (k = 2 ∨ k = 3)) h q) := by
  have f1 := lit_1
  have hx : w * g ≤ 25 := Nat.le_trans (Nat.mul_le_mul hw.2 hg.2) (by decide)
  intro n
  induction n with
  | zero => intro h l3 y e0 e1 e3 yg eb; exact Pc.no
  | succ n ih =>
    intro h l3 y e0 e1 e3 yg eb
    rw [u_X3_lay]
    refine Pc.pos rfl ?_
    refine Pc.le (fun c => Pc.ret ?_) (fun c => ?_)
    · have yy : y = g := by omega
      subst yy
      have m := mlT (hi h a 0) (hi h a 1) (w : Int) e0 (by rw [e1]; omega) (by rw [e1, ← Int.natCast_mul]; omega)
      rw [e1, ← Int.natCast_mul] at m
      have em : (hi h a 0 * hi h a 1) = Int32.ofNat (w * y) := by
        have nn : 0 ≤ (hi h a 0 * hi h a 1).toInt := by rw [m]; omega
        have := nc32 nn
        rw [← this]
        congr 1
        have := ncT nn
        omega
      refine ⟨⟨?_, ?_, fun i hi' => ?_, fun i hi' => ?_⟩, frZ.w (frZ.rf h) ⟨rfl, Or.inl rfl⟩⟩
      · rw [hi_wrI, if_neg (by omega)]; exact e0
      · rw [hi_wrI, if_neg (by omega)]; exact e1
      · rw [hi_wrI, if_pos ⟨rfl, rfl⟩, em]
        exact lay_bits w (by omega) y (by omega) i hi'
      · rw [hi_wrI, if_neg (by omega)]
        exact eb i hi'
    · have a1 := adT l3 1 (by omega) (by omega)
      have wy : w * y ≤ 20 := Nat.le_trans (Nat.mul_le_mul hw.2 (show y ≤ 4 by omega)) (by decide)
      have m := mlT (hi h a 0) l3 (w : Int) e0 (by rw [e3]; omega) (by rw [e3, ← Int.natCast_mul]; omega)
      rw [e3, ← Int.natCast_mul] at m
      have nn := ncT (show 0 ≤ (hi h a 0 * l3).toInt by omega)
      have nn' : Int32.toNatClampNeg (hi h a 0 * l3) = w * y := by omega
      refine (ih _ (l3 + 1) (y + 1) ?_ ?_ (by omega) (by omega) (fun i hi' => ?_)).mono (fun q hq => ⟨hq.1, frZ.tr (frZ.w (frZ.rf h) ⟨rfl, Or.inr rfl⟩) hq.2⟩)
      · rw [hi_wrI, if_neg (by omega)]; exact e0
      · rw [hi_wrI, if_neg (by omega)]; exact e1
      · rw [hi_wrI, if_pos ⟨rfl, rfl⟩, bt_or, eb i hi', btL (by omega) (by omega) i, nn']
        have e : w * (y + 1) = w * y + w := by rw [Nat.mul_add, Nat.mul_one]
        rw [e]
        by_cases z : i = w * y
        · subst z
          rw [Nat.mul_mod_right]
          simp
          omega
        · by_cases z1 : i % w = 0
          · by_cases z2 : i < w * y
            · simp [z, z1, z2]; omega
            · have : ¬ i < w * y + w := by
                intro z3
                obtain ⟨d, hd⟩ := Nat.dvd_of_mod_eq_zero z1
                subst hd
                have d1 : y ≤ d := by
                  refine Nat.le_of_not_lt (fun z4 => z2 ?_)
                  exact Nat.mul_lt_mul_of_pos_left z4 (by omega)
                have d2 : d < y + 1 := by
                  refine Nat.lt_of_not_le (fun z4 => ?_)
                  have := Nat.mul_le_mul_left w z4
                  omega
                exact z (by rw [show d = y by omega])
              simp [z, z1, z2, this]
          · simp [z, z1]
theorem fld_lay {n : Nat} {h : Hp} {a w g : Nat} (hw : 2 ≤ w ∧ w ≤ 5) (hg : 2 ≤ g ∧ g ≤ 5) {x1 x2 : Int32} (e1 : x1.toInt = (w : Int)) (e2 : x2.toInt = (g : Int)) : Pc (F_X3_lay n h a x1 x2) (fun q => FLD q a w g ∧ frZ (fun x _ => x = a) h q) := by
  unfold F_X3_lay
  refine (fld_loop hw hg n _ 0 0 ?_ ?_ lit_0 (Nat.zero_le g) (fun i hi' => ?_)).mono (fun q hq => ⟨hq.1, frZ.tr (frZ.w (A := fun x _ => x = a) (frZ.w (A := fun x _ => x = a) (frZ.w (A := fun x _ => x = a) (frZ.rf h) rfl) rfl) rfl) (hq.2.sub (fun x k z => z.1))⟩)
  · rw [hi_wrI, if_neg (by omega), hi_wrI, if_neg (by omega), hi_wrI, if_pos ⟨rfl, rfl⟩]; exact e1
  · rw [hi_wrI, if_neg (by omega), hi_wrI, if_pos ⟨rfl, rfl⟩]; exact e2
  · rw [hi_wrI, if_pos ⟨rfl, rfl⟩, bt_zero]
    simp
end
