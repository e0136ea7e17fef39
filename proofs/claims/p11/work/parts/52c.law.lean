/-! LAWS: the orders that the class lays down -/
/-- a law behind its =: E tells sums -/
def LW (E : Nat → List Int32 → Nat → Prop) (kd : Nat → Int) : List ((List Int32 × List Int32) × List Int32) → Nat → List Int32 → Nat → Prop
  | [], t, f, t' => kd t ≠ 19 ∧ E t f t'
  | ((x, y), c) :: r, t, f, t' => kd t = 19 ∧ ∃ t1 t2 t3, E (t + 1) x t1 ∧ kd t1 = 60 ∧ E (t1 + 1) y t2 ∧ kd t2 = 20 ∧ E (t2 + 1) c t3 ∧ kd t3 = 21 ∧ LW E kd r (t3 + 1) f t'
theorem LW.map {E E' : Nat → List Int32 → Nat → Prop} {kd : Nat → Int} (m : ∀ t C t', E t C t' → E' t C t') : ∀ {bs : List ((List Int32 × List Int32) × List Int32)} {t : Nat} {f : List Int32} {t' : Nat}, LW E kd bs t f t' → LW E' kd bs t f t' := by
  intro bs
  induction bs with
  | nil => intro t f t' h; exact ⟨h.1, m _ _ _ h.2⟩
  | cons b r ih =>
    intro t f t' h
    obtain ⟨⟨x, y⟩, c⟩ := b
    obtain ⟨h1, t1, t2, t3, h2, h3, h4, h5, h6, h7, h8⟩ := h
    exact ⟨h1, t1, t2, t3, m _ _ _ h2, h3, m _ _ _ h4, h5, m _ _ _ h6, h7, ih h8⟩
theorem LW.uniq {E : Nat → List Int32 → Nat → Prop} {kd : Nat → Int} (u : ∀ t C t' D t'', E t C t' → E t D t'' → C = D ∧ t' = t'') : ∀ {bs bs' : List ((List Int32 × List Int32) × List Int32)} {t : Nat} {f g : List Int32} {t' t'' : Nat}, LW E kd bs t f t' → LW E kd bs' t g t'' → bs = bs' ∧ f = g ∧ t' = t'' := by
  intro bs
  induction bs with
  | nil =>
    intro bs' t f g t' t'' h k
    rcases bs' with _ | ⟨⟨⟨x, y⟩, c⟩, r⟩
    · have := u _ _ _ _ _ h.2 k.2
      exact ⟨rfl, this.1, this.2⟩
    · exact absurd k.1 h.1
  | cons b r ih =>
    intro bs' t f g t' t'' h k
    obtain ⟨⟨x, y⟩, c⟩ := b
    rcases bs' with _ | ⟨⟨⟨x', y'⟩, c'⟩, r'⟩
    · exact absurd h.1 k.1
    · obtain ⟨h1, t1, t2, t3, h2, h3, h4, h5, h6, h7, h8⟩ := h
      obtain ⟨k1, u1, u2, u3, k2, k3, k4, k5, k6, k7, k8⟩ := k
      obtain ⟨e1, e2⟩ := u _ _ _ _ _ h2 k2
      subst e1 e2
      obtain ⟨e1, e2⟩ := u _ _ _ _ _ h4 k4
      subst e1 e2
      obtain ⟨e1, e2⟩ := u _ _ _ _ _ h6 k6
      subst e1 e2
      obtain ⟨e1, e2, e3⟩ := ih h8 k8
      exact ⟨by rw [e1], e2, e3⟩
/-- the sums of a law, as the class goes down -/
def rcE (kd vl : Nat → Int) (t : Nat) (C : List Int32) (t' : Nat) : Prop := RD kd vl 2 0 0 t C t'
/-- the sums of a law, by what waits -/
def meE (kd vl : Nat → Int) (t : Nat) (C : List Int32) (t' : Nat) : Prop := ME kd vl true [] t (C, t')
theorem rd_me {kd vl : Nat → Int} (t : Nat) (C : List Int32) (t' : Nat) (h : rcE kd vl t C t') : meE kd vl t C t' := RD.whole h
theorem me_u {kd vl : Nat → Int} (t : Nat) (C : List Int32) (t' : Nat) (D : List Int32) (t'' : Nat) (h : meE kd vl t C t') (k : meE kd vl t D t'') : C = D ∧ t' = t'' := by
  have := ME.uniq h k
  exact ⟨congrArg Prod.fst this, congrArg Prod.snd this⟩
theorem LW.gd {kd vl : Nat → Int} (vlr : ∀ t, kd t = 30 → 0 ≤ vl t ∧ vl t ≤ 9999) : ∀ {bs : List ((List Int32 × List Int32) × List Int32)} {t : Nat} {f : List Int32} {t' : Nat}, LW (rcE kd vl) kd bs t f t' → gdB 16 bs ∧ gdC 16 f := by
  intro bs
  induction bs with
  | nil => intro t f t' h; exact ⟨fun b hb => absurd hb List.not_mem_nil, (RD.gd vlr h.2).1⟩
  | cons b r ih =>
    intro t f t' h
    obtain ⟨⟨x, y⟩, c⟩ := b
    obtain ⟨h1, t1, t2, t3, h2, h3, h4, h5, h6, h7, h8⟩ := h
    obtain ⟨i1, i2⟩ := ih h8
    refine ⟨fun b hb => ?_, i2⟩
    rcases List.mem_cons.mp hb with z | z
    · rw [z]
      refine ⟨(RD.gd vlr h2).1, ?_, (RD.gd vlr h4).1, (RD.gd vlr h6).1⟩
      show dpL 16 (x ++ y) 0 = some 2
      rw [dpL_app, (RD.gd vlr h2).1]
      exact (RD.gd vlr h4).2
    · exact i1 b z
/-- as far as S orders nothing has changed -/
theorem clO.cg {g g' : Nat → Int32} {S S' : Nat} (hS : S ≤ S') (e : ∀ k, k < S → g' k = g k) : ∀ {bs : List ((List Int32 × List Int32) × List Int32)} {p : Nat} {f : List Int32}, clO g S p bs f → clO g' S' p bs f := by
  intro bs
  induction bs with
  | nil =>
    intro p f h
    have l : (f ++ [(-15 : Int32)]).length = f.length + 1 := by simp
    exact ⟨h.1.cg (fun k h1 h2 => e k (by have := h.2; omega)), by have := h.2; omega⟩
  | cons b r ih =>
    intro p f h
    obtain ⟨⟨x, y⟩, c⟩ := b
    obtain ⟨h1, h2, h3, h4, h5, h6⟩ := h
    have l : (c ++ [(-15 : Int32)]).length = c.length + 1 := by simp
    refine ⟨h1.cg (fun k _ k2 => e k (by omega)), ?_, ?_, h4.cg (fun k _ k2 => e k (by omega)), by omega, ih h6⟩
    · rw [e _ (by omega)]; exact h2
    · rw [e _ (by omega)]; exact h3
theorem Pc.zb {α : Type} {o : Option α} {g : Hp} {F : α → Hp} {f : α → Option Hp} (h1 : Pc o (fun x => zc g (F x))) (h2 : ∀ x, Pc (f x) (fun q => zc (F x) q)) : Pc (o.bind f) (fun q => zc g q) := Pc.bind h1 (fun x hx => (h2 x).mono (fun _ m => hx.tr m))
/-- one step on, as long as there is no fault -/
theorem Pc.zs {α : Type} {o : Option α} {F : α → Hp} {A : α → Prop} {f : α → Option Hp} {P : Hp → Prop} (h1 : Pc o (fun x => zF (F x) → A x)) (h2 : ∀ x, zF (F x) → A x → Pc (f x) (fun q => zF q → P q)) (h3 : ∀ x, Pc (f x) (fun q => zc (F x) q)) : Pc (o.bind f) (fun q => zF q → P q) := by
  refine Pc.bind h1 (fun x a => ?_)
  by_cases z : zF (F x)
  · exact h2 x z (a z)
  · exact (h3 x).mono (fun q m y => absurd (m.2.1 y) z)
section QL
variable {N : Nat} {kd pl vl : Nat → Int}
theorem zb_add {n : Nat} {h : Hp} {x : Int32} : Pc (F_X4_add n h 5 x) (fun q => zc h q) := pc_add.mono (fun q f => zc.of (f.1 2 5 (by decide) (by decide) (by decide)) (f.1 2 6 (by decide) (by decide) (by decide)))
theorem zb_addLess {n : Nat} {h : Hp} : Pc (F_X4_addLess n h 5) (fun q => zc h q.2) := pc_addLess.mono (fun q f => zc.of (f.1 2 5 (by decide) (by decide) (by decide)) (f.1 2 6 (by decide) (by decide) (by decide)))
theorem zb_elseHere {n : Nat} {h : Hp} {x : Int32} : Pc (F_X4_elseHere n h 5 x) (fun q => zc h q) := pc_elseHere.mono (fun q f => zc.of (f.1 2 5 (by decide) (by decide) (by decide)) (f.1 2 6 (by decide) (by decide) (by decide)))
/-- a TOKEN is taken, and there is no fault -/
theorem qz_take (X : TX N kd pl vl) {h : Hp} {n t : Nat} (C : CT N kd pl vl h) (T : tI2 N t) (S : cS h 0 t) {x1 : Int32} (k : Int) (hx : x1.toInt = k) (k2 : k ≠ 32) : Pc (F_X7_take n h x1) (fun q => zF q.2 → frK h q.2 ∧ cS q.2 0 (t + 1) ∧ kd t = k ∧ t < 400 ∧ tI2 N (t + 1)) := by
  refine (pc_take X C T S).mono (fun q hq z => ?_)
  obtain ⟨a1, a2, -⟩ := hq
  have T' := tk_in X T (k := x1.toInt) (f := 0) (by rw [hx]; exact k2)
  have fz : (tkS kd x1.toInt 0 t).1 = 0 := by
    have := a2.1
    unfold zF at z
    omega
  obtain ⟨-, e1, e2, e3⟩ := tk_z fz
  rw [e3] at a2 T'
  exact ⟨a1, a2, e1.trans hx, e2, T'⟩
/-- a sum is read, and there is no fault -/
theorem qz_sum (X : TX N kd pl vl) {h : Hp} {n t s : Nat} (C : CT N kd pl vl h) (T : tI2 N t) (S : cS h 0 t) (os : osN h s) (sl : s ≤ 3 + t) : Pc (F_X7_readSumT n h 0) (fun q => zF q → ∃ D t', frL h q ∧ cS q 0 t' ∧ tI2 N t' ∧ rcE kd vl t D t' ∧ oaP h q s D ∧ D.length + t ≤ t') := by
  refine fun q e => ?_
  have a := pc_sum X C T S q e
  have b := qc_sum X C T S os sl q e
  intro z
  obtain ⟨m1, f', t1, m2, m3, m4⟩ := a
  obtain ⟨D, t', r1, r2, r3, r4, r5⟩ := b z
  have tt : t' = t1 := by
    have x := r1.2
    have y := m2.2
    omega
  subst tt
  exact ⟨D, t', m1, r1, m3, r2, r3, r2.len.2.2 rfl⟩
theorem oa_begin {n : Nat} {h : Hp} {x : Int32} {k s : Nat} (hx : x.toInt = (k : Int)) (k4 : k < 4) (os : osN h s) : Pc (F_X4_begin n h 5 x) (fun q => frO h q ∧ osN q s ∧ (hi q 7 k).toInt = (s : Int) ∧ (∀ j, j ≠ k → hi q 7 j = hi h 7 j) ∧ ∀ j, hi q 6 j = hi h 6 j) := by
  have f0 := lit_0
  have f4 := lit_4
  refine fun q e => And.intro (pc_begin q e) ?_
  revert q e
  show Pc (F_X4_begin n h 5 x) (fun q => osN q s ∧ (hi q 7 k).toInt = (s : Int) ∧ (∀ j, j ≠ k → hi q 7 j = hi h 7 j) ∧ ∀ j, hi q 6 j = hi h 6 j)
  have nx := ncT (show 0 ≤ x.toInt by omega)
  have nx' : Int32.toNatClampNeg x = k := by omega
  unfold F_X4_begin
  rw [nx']
  refine Pc.lt (fun c => by exfalso; omega) (fun _ => Pc.le (fun c => by exfalso; omega) (fun _ => Pc.chk (fun _ => Pc.ret ⟨?_, ?_, fun j hj => ?_, fun j => ?_⟩)))
  · unfold osN
    rw [hiA rfl 5 3 (by decide)]
    exact os
  · rw [hiE rfl]; exact os
  · rw [hi_wrI, if_neg (by omega)]
  · rw [hi_wrI, if_neg (by omega)]
theorem oa_less {n : Nat} {h : Hp} {s : Nat} (os : osN h s) (s4 : s + 2 ≤ 404) : Pc (F_X4_addLess n h 5) (fun q => frO h q.2 ∧ oaP h q.2 s [-14, 0] ∧ q.1.toInt = ((s + 1 : Nat) : Int)) := by
  have f1 := lit_1
  unfold F_X4_addLess
  refine Pc.bind (oa_add os (by omega)) (fun q1 h1 => Pc.bind (oa_add (s := s + 1) h1.1.1 (by omega)) (fun q3 h3 => Pc.ret ⟨h1.2.tr h3.2, h1.1.tr h3.1, ?_⟩))
  have o : (hi q3 5 3).toInt = ((s + 1 + 1 : Nat) : Int) := h3.1.1
  exact (sbV (hi q3 5 3) 1 o f1 (by omega) (by omega)).trans (by omega)
theorem oa_else {n : Nat} {h : Hp} {x : Int32} {r s : Nat} (os : osN h s) (hx : x.toInt = (r : Int)) (r4 : r < 404) : Pc (F_X4_elseHere n h 5 x) (fun q => frO h q ∧ osN q s ∧ (hi q 6 r).toInt = (s : Int) ∧ (∀ j, j ≠ r → hi q 6 j = hi h 6 j) ∧ ∀ j, hi q 7 j = hi h 7 j) := by
  have f0 := lit_0
  have f4 := lit_404'
  refine fun q e => And.intro (pc_elseHere q e) ?_
  revert q e
  show Pc (F_X4_elseHere n h 5 x) (fun q => osN q s ∧ (hi q 6 r).toInt = (s : Int) ∧ (∀ j, j ≠ r → hi q 6 j = hi h 6 j) ∧ ∀ j, hi q 7 j = hi h 7 j)
  have nx := ncT (show 0 ≤ x.toInt by omega)
  have nx' : Int32.toNatClampNeg x = r := by omega
  unfold F_X4_elseHere
  rw [nx']
  refine Pc.lt (fun c => by exfalso; omega) (fun _ => Pc.le (fun c => by exfalso; omega) (fun _ => Pc.chk (fun _ => Pc.ret ⟨?_, ?_, fun j hj => ?_, fun j => ?_⟩)))
  · unfold osN
    rw [hiA rfl 5 3 (by decide)]
    exact os
  · rw [hiE rfl]; exact os
  · rw [hi_wrI, if_neg (by omega)]
  · rw [hi_wrI, if_neg (by omega)]
/-- what a law read lays down -/
def lawQ (kd vl : Nat → Int) (t s : Nat) (h q : Hp) : Prop := ∃ bs f t' s2, cS q 0 t' ∧ LW (rcE kd vl) kd bs t f t' ∧ osN q s2 ∧ clO (hi q 6) s2 s bs f ∧ (∀ k, k < s → hi q 6 k = hi h 6 k) ∧ (∀ k, hi q 7 k = hi h 7 k) ∧ s2 ≤ 3 + t' ∧ t < t' ∧ t' ≤ 400 ∧ s < s2
theorem wr_end (X : TX N kd pl vl) {h : Hp} {n t s : Nat} (C : CT N kd pl vl h) (T : tI2 N t) (S : cS h 0 t) (os : osN h s) (sl : s ≤ 2 + t) (ne : kd t ≠ 19) : Pc ((F_X7_readSumT n h 0).bind (fun q2 => ((F_X4_add n q2 5 (-15)).bind (fun q4 => some q4)))) (fun q => zF q → lawQ kd vl t s h q) := by
  refine Pc.zs (qz_sum X C T S os (by omega)) (fun q2 _ a => ?_) (fun q2 => ?_)
  · obtain ⟨D, t', a1, a2, a3, a4, a5, a6⟩ := a
    have a32 := a3.2
    have ne1 : D ≠ [] := a4.ne
    have l1 : 0 < D.length := List.length_pos_iff.mpr ne1
    refine Pc.bind (oa_add a5.1 (by omega)) (fun q4 h4 => Pc.ret (fun _ => ?_))
    have u := a5.tr h4.1
    have l2 : (D ++ [(-15 : Int32)]).length = D.length + 1 := by simp
    refine ⟨[], D, t', s + (D ++ [(-15 : Int32)]).length, h4.2.st a2, ⟨ne, a4⟩, u.1, ⟨u.2.1, by omega⟩, u.2.2.1, u.2.2.2, by omega, by omega, by omega, by omega⟩
  · (refine Pc.zb zb_add (fun _ => ?_); exact Pc.ret (zc.rf _))
set_option maxHeartbeats 8000000 in
theorem qc_lawL (X : TX N kd pl vl) {l1 : Int32} : ∀ (n : Nat) (h : Hp) (l2 : Int32) (t s : Nat), CT N kd pl vl h → tI2 N t → cS h 0 t → 0 ≤ l2.toInt → l2.toInt ≤ 4 → osN h s → s ≤ 2 + t → Pc (W_X7_readLaw n 20 h l1 l2) (fun q => zF q → lawQ kd vl t s h q) := by
  have f0 := lit_0
  have f1 := lit_1
  have f2 := lit_2
  have f4 := lit_4
  have f19 := lit_19
  have f20 := lit_20
  have f60 := lit_60
  have l21 : (21 : Int32).toInt = 21 := by decide
  intro n
  induction n with
  | zero => intro h l2 t s C T S a b os sl; exact Pc.no
  | succ n ih =>
    intro h l2 t s C T S a b os sl
    have T2 := T.2
    rw [u_X7_readLaw]
    refine Pc.pos rfl ?_
    have s1 := S.1
    refine Pc.eq (fun c0 => ?_) (fun c0 => by exfalso; omega)
    unfold F_X7_kind
    refine Pc.bind (Q := fun q => q.2 = h ∧ q.1.toInt = kd t) (Pc.bind (pc_kindOf X C T S.2) (fun q hq => Pc.ret hq)) (fun q6 h6 => ?_)
    rw [h6.1]
    have v6 := h6.2
    refine Pc.eq (fun c1 => ?_) (fun c1 => wr_end X C T S os sl (by omega))
    have k19 : kd t = 19 := by omega
    have a1 := adT l2 1 (by omega) (by omega)
    refine Pc.lt (fun c2 => by exfalso; omega) (fun c2 => ?_)
    refine Pc.lt (fun c3 => ?_) (fun c3 => ?_)
    · refine Pc.zs (qz_take X C T S 19 f19 (by decide)) (fun q19 _ a => ?_) (fun q => ?_)
      rotate_left
      · (refine Pc.zb zb_X7_readSumT (fun _ => ?_); refine Pc.zb zb_X7_take (fun _ => ?_); refine Pc.zb zb_X7_readSumT (fun _ => ?_); refine Pc.zb zb_X7_take (fun _ => ?_); refine Pc.zb zb_addLess (fun _ => ?_); refine Pc.zb zb_X7_readSumT (fun _ => ?_); refine Pc.zb zb_X7_take (fun _ => ?_); refine Pc.zb zb_add (fun _ => ?_); refine Pc.zb zb_elseHere (fun _ => ?_); exact zv_X7_readLaw _ _ _ _ _)
      obtain ⟨b1, b2, b3, b4, b5⟩ := a
      have C1 := C.cg b1.tk
      refine Pc.zs (qz_sum X C1 b5 b2 (b1.os os) (by omega)) (fun q21 _ a => ?_) (fun q => ?_)
      rotate_left
      · (refine Pc.zb zb_X7_take (fun _ => ?_); refine Pc.zb zb_X7_readSumT (fun _ => ?_); refine Pc.zb zb_X7_take (fun _ => ?_); refine Pc.zb zb_addLess (fun _ => ?_); refine Pc.zb zb_X7_readSumT (fun _ => ?_); refine Pc.zb zb_X7_take (fun _ => ?_); refine Pc.zb zb_add (fun _ => ?_); refine Pc.zb zb_elseHere (fun _ => ?_); exact zv_X7_readLaw _ _ _ _ _)
      obtain ⟨x, t1, c1, c2, c3, c4, c5, c6⟩ := a
      have C2 := C1.cg c1.tk
      refine Pc.zs (qz_take X C2 c3 c2 60 f60 (by decide)) (fun q23 _ a => ?_) (fun q => ?_)
      rotate_left
      · (refine Pc.zb zb_X7_readSumT (fun _ => ?_); refine Pc.zb zb_X7_take (fun _ => ?_); refine Pc.zb zb_addLess (fun _ => ?_); refine Pc.zb zb_X7_readSumT (fun _ => ?_); refine Pc.zb zb_X7_take (fun _ => ?_); refine Pc.zb zb_add (fun _ => ?_); refine Pc.zb zb_elseHere (fun _ => ?_); exact zv_X7_readLaw _ _ _ _ _)
      obtain ⟨d1, d2, d3, d4, d5⟩ := a
      have C3 := C2.cg d1.tk
      have o3 : osN q23.2 (s + x.length) := d1.os c5.1
      refine Pc.zs (qz_sum X C3 d5 d2 o3 (by omega)) (fun q25 _ a => ?_) (fun q => ?_)
      rotate_left
      · (refine Pc.zb zb_X7_take (fun _ => ?_); refine Pc.zb zb_addLess (fun _ => ?_); refine Pc.zb zb_X7_readSumT (fun _ => ?_); refine Pc.zb zb_X7_take (fun _ => ?_); refine Pc.zb zb_add (fun _ => ?_); refine Pc.zb zb_elseHere (fun _ => ?_); exact zv_X7_readLaw _ _ _ _ _)
      obtain ⟨y, t2, e1, e2, e3, e4, e5, e6⟩ := a
      have C4 := C3.cg e1.tk
      refine Pc.zs (qz_take X C4 e3 e2 20 f20 (by decide)) (fun q27 _ a => ?_) (fun q => ?_)
      rotate_left
      · (refine Pc.zb zb_addLess (fun _ => ?_); refine Pc.zb zb_X7_readSumT (fun _ => ?_); refine Pc.zb zb_X7_take (fun _ => ?_); refine Pc.zb zb_add (fun _ => ?_); refine Pc.zb zb_elseHere (fun _ => ?_); exact zv_X7_readLaw _ _ _ _ _)
      obtain ⟨g1, g2, g3, g4, g5⟩ := a
      have C5 := C4.cg g1.tk
      have o5 : osN q27.2 (s + x.length + y.length) := g1.os e5.1
      refine Pc.bind (oa_less o5 (by omega)) (fun q29 h29 => ?_)
      obtain ⟨i1, i2, i3⟩ := h29
      have C6 := C5.cg i1.l.tk
      have o6 : osN q29.2 (s + x.length + y.length + 2) := i2.1
      refine Pc.zs (qz_sum X C6 g5 (i1.st g2) o6 (by omega)) (fun q31 _ a => ?_) (fun q => ?_)
      rotate_left
      · (refine Pc.zb zb_X7_take (fun _ => ?_); refine Pc.zb zb_add (fun _ => ?_); refine Pc.zb zb_elseHere (fun _ => ?_); exact zv_X7_readLaw _ _ _ _ _)
      obtain ⟨c, t3, j1, j2, j3, j4, j5, j6⟩ := a
      have C7 := C6.cg j1.tk
      refine Pc.zs (qz_take X C7 j3 j2 21 l21 (by decide)) (fun q33 _ a => ?_) (fun q => ?_)
      rotate_left
      · (refine Pc.zb zb_add (fun _ => ?_); refine Pc.zb zb_elseHere (fun _ => ?_); exact zv_X7_readLaw _ _ _ _ _)
      obtain ⟨k1, k2, k3, k4, k5⟩ := a
      have C8 := C7.cg k1.tk
      have o7 : osN q33.2 (s + x.length + y.length + 2 + c.length) := k1.os j5.1
      refine Pc.bind (oa_add o7 (by omega)) (fun q35 h35 => ?_)
      obtain ⟨m1, m2⟩ := h35
      have o8 : osN q35 (s + x.length + y.length + 2 + c.length + 1) := m1.1
      refine Pc.bind (oa_else o8 i3 (by omega)) (fun q37 h37 => ?_)
      obtain ⟨n1, n2, n3, n4, n5⟩ := h37
      have C9 := C8.cg (m2.l.tr n1.l).tk
      refine (ih q37 (l2 + 1) (t3 + 1) _ C9 k5 (n1.st (m2.st k2)) (by omega) (by omega) n2 (by omega)).mono (fun q hq z => ?_)
      obtain ⟨bs, f, t', s2, p1, p2, p3, p4, p5, p6, p7, p8, p9, p10⟩ := hq z
      -- what lay there when all was laid down
      have A1 : oaP h q35 s (x ++ y ++ [-14, 0] ++ c ++ [-15]) := by
        have u1 : oaP h q21 s x := c5.l b1.o6 b1.o7
        have u2 : oaP q21 q25 (s + x.length) y := e5.l d1.o6 d1.o7
        have u3 : oaP q25 q29.2 (s + x.length + y.length) [-14, 0] := i2.l g1.o6 g1.o7
        have u4 : oaP q31 q35 (s + x.length + y.length + 2 + c.length) [-15] := m1.l k1.o6 k1.o7
        have v1 := u1.tr u2
        have v2 := v1.tr (by rw [List.length_append, ← Nat.add_assoc]; exact u3)
        have v3 := v2.tr (D := c) (by rw [List.length_append, List.length_append, ← Nat.add_assoc, ← Nat.add_assoc]; exact j5)
        exact v3.tr (by rw [List.length_append, List.length_append, List.length_append, ← Nat.add_assoc, ← Nat.add_assoc, ← Nat.add_assoc]; exact u4)
      have lxy : (x ++ y).length = x.length + y.length := by simp
      have A2 : odA (hi q35 6) s ((x ++ y ++ [-14, 0]) ++ (c ++ [-15])) := by
        rw [← List.append_assoc]
        exact A1.2.1
      obtain ⟨A34, A5⟩ := odA.app.mp A2
      obtain ⟨A3, A4⟩ := odA.app.mp A34
      have r6 (k : Nat) (hk : k < s + x.length + y.length + 2 + c.length + 1) : hi q 6 k = hi q37 6 k := p5 k hk
      refine ⟨((x, y), c) :: bs, f, t', s2, p1, ⟨k19, t1, t2, t3, c4, d3, e4, g3, j4, k3, p2⟩, p3, ⟨?_, ?_, ?_, ?_, ?_, ?_⟩, fun k hk => ?_, fun k => ?_, p7, by omega, p9, by omega⟩
      · exact A3.cg (fun k h1 h2 => by rw [r6 k (by omega), n4 k (by omega)])
      · rw [lxy, r6 _ (by omega), n4 _ (by omega)]
        have := A4.1
        rw [lxy] at this
        exact this
      · rw [lxy, r6 _ (by omega)]
        have e : s + (x.length + y.length) + 1 = s + x.length + y.length + 1 := by omega
        rw [e, n3]
        have e2 : s + (x.length + y.length) + 2 + c.length + 1 = s + x.length + y.length + 2 + c.length + 1 := by omega
        rw [e2]
      · rw [lxy]
        have e : s + (x ++ y ++ [(-14 : Int32), 0]).length = s + (x.length + y.length) + 2 := by simp; omega
        rw [e] at A5
        have lc : (c ++ [(-15 : Int32)]).length = c.length + 1 := by simp
        exact A5.cg (fun k h1 h2 => by rw [r6 k (by omega), n4 k (by omega)])
      · rw [lxy]; omega
      · have e : s + (x ++ y).length + 2 + c.length + 1 = s + x.length + y.length + 2 + c.length + 1 := by omega
        rw [e]
        exact p4
      · rw [p5 k (by omega), n4 k (by omega)]
        exact A1.2.2.1 k hk
      · rw [p6 k, n5 k]
        exact A1.2.2.2 k
    · -- a 5th if
      refine Pc.bind (pc_stop S) (fun g hg => ?_)
      have Sg := hg.2
      rw [if_pos rfl, f2] at Sg
      have z2 : ¬ zF g := zF.no Sg (by decide)
      have ch : Pc ((F_X7_take n g 19).bind (fun q19 => ((F_X7_readSumT n q19.2 0).bind (fun q21 => ((F_X7_take n q21 60).bind (fun q23 => ((F_X7_readSumT n q23.2 0).bind (fun q25 => ((F_X7_take n q25 20).bind (fun q27 => ((F_X4_addLess n q27.2 5).bind (fun q29 => ((F_X7_readSumT n q29.2 0).bind (fun q31 => ((F_X7_take n q31 21).bind (fun q33 => ((F_X4_add n q33.2 5 (-15)).bind (fun q35 => ((F_X4_elseHere n q35 5 q29.1).bind (fun q37 => W_X7_readLaw n 20 q37 l1 (l2 + 1))))))))))))))))))))) (fun q => zc g q) := by
        (refine Pc.zb zb_X7_take (fun _ => ?_); refine Pc.zb zb_X7_readSumT (fun _ => ?_); refine Pc.zb zb_X7_take (fun _ => ?_); refine Pc.zb zb_X7_readSumT (fun _ => ?_); refine Pc.zb zb_X7_take (fun _ => ?_); refine Pc.zb zb_addLess (fun _ => ?_); refine Pc.zb zb_X7_readSumT (fun _ => ?_); refine Pc.zb zb_X7_take (fun _ => ?_); refine Pc.zb zb_add (fun _ => ?_); refine Pc.zb zb_elseHere (fun _ => ?_); exact zv_X7_readLaw _ _ _ _ _)
      exact ch.mono (fun q m z => absurd (m.2.1 z) z2)
/-- a law, read: behind its word -/
theorem qc_law (X : TX N kd pl vl) {h : Hp} {n t s k : Nat} {x1 : Int32} (C : CT N kd pl vl h) (T : tI2 N t) (S : cS h 0 t) (hx : x1.toInt = (k : Int)) (k4 : k < 4) (os : osN h s) (sl : s ≤ 3 + t) : Pc (F_X7_readLaw n h x1) (fun q => zF q → ∃ bs f t' s2, kd t = 61 ∧ cS q 0 t' ∧ LW (rcE kd vl) kd bs (t + 1) f t' ∧ osN q s2 ∧ clO (hi q 6) s2 s bs f ∧ (∀ j, j < s → hi q 6 j = hi h 6 j) ∧ (hi q 7 k).toInt = (s : Int) ∧ (∀ j, j ≠ k → hi q 7 j = hi h 7 j) ∧ s2 ≤ 3 + t' ∧ t < t' ∧ t' ≤ 400 ∧ s < s2) := by
  have f0 := lit_0
  have f61 := lit_61
  unfold F_X7_readLaw
  refine Pc.zs (qz_take X C T S 61 f61 (by decide)) (fun q1 _ a => ?_) (fun q => ?_)
  rotate_left
  · refine Pc.zb (pc_begin.mono (fun q f => zc.of (f.1 2 5 (by decide) (by decide) (by decide)) (f.1 2 6 (by decide) (by decide) (by decide)))) (fun _ => ?_)
    exact zv_X7_readLaw _ _ _ _ _
  obtain ⟨b1, b2, b3, b4, b5⟩ := a
  refine Pc.bind (oa_begin hx k4 (b1.os os)) (fun q3 h3 => ?_)
  obtain ⟨c1, c2, c3, c4, c5⟩ := h3
  refine (qc_lawL X n q3 0 (t + 1) s (C.cg (b1.l.tr c1.l).tk) b5 (c1.st b2) (by omega) (by omega) c2 (by omega)).mono (fun q hq z => ?_)
  obtain ⟨bs, f, t', s2, p1, p2, p3, p4, p5, p6, p7, p8, p9, p10⟩ := hq z
  exact ⟨bs, f, t', s2, b3, p1, p2, p3, p4, fun j hj => by rw [p5 j hj, c5 j, b1.o6 j], by rw [p6 k]; exact c3, fun j hj => by rw [p6 j, c4 j hj, b1.o7 j], p7, by omega, p9, p10⟩
end QL
