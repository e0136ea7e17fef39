/-! WHAT IS DONE BY HAND: rope, carry, beats, in both -/
def CRO (T : TT) (f : Nat → Int32) (x1 x2 : Int32) (g b : Nat) : Prop := (g < T.go.length ∧ x1.toInt = (g : Int)) ∧ (b < wT T * gT T ∧ x2.toInt = (b : Int)) ∧ f (51 + g) ≠ x2 ∧ bt (f 50) b = false
section R56T
variable {s G c : Nat} {T : TT} {h h0 q : Hp} {n : Nat} {x1 x2 x3 : Int32} {f f' : Nat → Int32} {a : Nat}
theorem gi_no {y : Int32} (G5 : G ≤ 5) (e : ∀ j, j < 32 → bt y j = (decide (j < G) && decide (f (51 + j) = x1))) : y = 0 ↔ ∀ k, k < G → f (51 + k) ≠ x1 := by
  rw [gi_0 G5 e]
  exact ⟨fun z k hk => of_decide_eq_false (z k hk), fun z k hk => decide_eq_false (z k hk)⟩
theorem rp_c (v : VT T) (bd : BDF T 23 h) (sc : SCR (wT T * gT T) T.go.length f 30 h) (rv : RVR (wT T * gT T) T.go.length f) (r : 0 ≤ (hi h 38 1).toInt ∧ (hi h 38 1).toInt ≤ 39) : Pc (F_X11_rope n h x1 x2) (fun q => ((∀ b, ¬ RPO T f x1 x2 b) ∧ q.1 = 0 ∧ q.2 = h) ∨ ∃ b, RPO T f x1 x2 b ∧ q.1 = 1 ∧ DNc T (rpF f x1) h q.2) := by
  obtain ⟨c25, ⟨w2, w5⟩, ⟨g2, g5⟩, -, -⟩ := wg_T v
  have G5 := v.2.2.1.1
  unfold F_X11_rope
  refine Pc.bind (hs_c bd.1 w5 g5) (fun q1 h1 => ?_)
  obtain ⟨t1, t2⟩ := h1
  rw [t1]
  rcases t2 with ⟨y, z⟩ | ⟨y, z⟩
  · rw [y]
    exact Pc.pos rfl (Pc.ret (Or.inl ⟨fun b w => in_n z w.1.1 w.1.2, rfl, rfl⟩))
  rw [y]
  refine Pc.neg (by decide) ?_
  obtain ⟨b, bc, hb⟩ := in_b z
  have un (b' : Nat) (w : RPO T f x1 x2 b') : b' = b := by have := w.1.2; omega
  refine Pc.bind (ro_c sc (b := b) (by omega) hb) (fun q4 h4 => ?_)
  obtain ⟨t4, t5⟩ := h4
  rw [t4, t5]
  refine Pc.ite (fun z0 => Pc.ret (Or.inl ⟨fun b' w => ?_, rfl, rfl⟩)) (fun z0 => ?_)
  · have e := un b' w
    subst e
    exact w.2.1 z0
  refine Pc.bind (gi_c G5 sc bd.2.1.1) (fun q7 h7 => ?_)
  obtain ⟨t7, t8⟩ := h7
  have t9 := gi_no G5 t8
  rw [t7]
  refine Pc.ite (fun z1 => ?_) (fun z1 => Pc.ret (Or.inl ⟨fun b' w => z1 (t9.mpr w.2.2.1), rfl, rfl⟩))
  have no := t9.mp z1
  -- it is done
  have go (ok : x2 = 0 ∨ ¬ 0 < (f b).toInt) : Pc ((F_X6_keep n h 30).bind (fun q11 => some ((1 : Int32), (wrI q11 30 2 ((hi q11 30 2) ^^^ ((1 : Int32) <<< (x1 &&& 31))))))) (fun q => ((∀ b, ¬ RPO T f x1 x2 b) ∧ q.1 = 0 ∧ q.2 = h) ∨ ∃ b, RPO T f x1 x2 b ∧ q.1 = 1 ∧ DNc T (rpF f x1) h q.2) := by
    refine Pc.bind (kp_c r) (fun q11 kc => Pc.ret (Or.inr ⟨b, ⟨⟨bc, hb⟩, z0, no, ok⟩, rfl, q11, kc, fun a k h1 => ?_, ?_⟩))
    · show hi (wrI q11 30 2 _) a k = _
      rw [hi_wrI, if_neg (by omega)]
    · have fr (a k : Nat) (h1 : a < 38) : hi q11 a k = hi h a k := kc.fr a k (by omega) (by omega)
      have sc7 : SCR (wT T * gT T) T.go.length f 30 q11 := sc.to c25 G5 (fun j _ => fr 30 j (by decide)) (fun j _ => fr 31 j (by decide)) (fun j _ => fr 32 j (by decide)) (fun j _ => fr 33 j (by decide))
      exact sc7.rp c25 G5
  refine Pc.ite (fun z2 => go (Or.inl z2)) (fun z2 => ?_)
  refine Pc.bind (tu_c sc (b := b) (by omega) hb) (fun q13 h13 => ?_)
  obtain ⟨u1, u2, u3⟩ := h13
  rw [u1]
  refine Pc.ite (fun z3 => go (Or.inr (fun w => u3.mpr ⟨bc, w⟩ z3))) (fun z3 => Pc.ret (Or.inl ⟨fun b' w => ?_, rfl, rfl⟩))
  have e := un b' w
  subst e
  rcases w.2.2.2 with w | w
  · exact z2 w
  · exact w (u3.mp z3).2
theorem rp_r (v : VT T) (e : EN2 s T h) (rv : RVR (wT T * gT T) T.go.length (hi h 262)) (r59 : 0 ≤ (hi h 226 59).toInt ∧ (hi h 226 59).toInt ≤ 40) : Pc (F_X12_rope n h x1 x2) (fun q => ∃ f, RFW h f ∧ (((∀ b, ¬ RPO T f x1 x2 b) ∧ q.1 = 0 ∧ frZ bgJ h q.2) ∨ ∃ b, RPO T f x1 x2 b ∧ q.1 = 1 ∧ DNr (rpF f x1) h q.2)) := by
  have c25 := (wg_T v).1
  have G5 := v.2.2.1.1
  have f0 := lit_0
  unfold F_X12_rope
  refine Pc.bind (cp_r e) (fun q1 cp => ?_)
  have en1 := cp.en e
  have rvf : RVR (wT T * gT T) T.go.length (hi q1 263) := rv.cg G5 (fun k hk => cp.1 k (by omega))
  -- the answers
  have no' (hr : ∀ b, ¬ RPO T (hi q1 263) x1 x2 b) : ∃ f, RFW h f ∧ (((∀ b, ¬ RPO T f x1 x2 b) ∧ (0 : Int32) = 0 ∧ frZ bgJ h q1) ∨ ∃ b, RPO T f x1 x2 b ∧ (0 : Int32) = 1 ∧ DNr (rpF f x1) h q1) := ⟨hi q1 263, cp.1, Or.inl ⟨hr, rfl, cp.bg⟩⟩
  refine Pc.bind (ic_r v en1) (fun q3 h3 => ?_)
  obtain ⟨t1, t2⟩ := h3
  rw [t1]
  rcases t2 with ⟨y, z⟩ | ⟨y, z⟩
  · rw [y]
    exact Pc.pos rfl (Pc.ret (no' (fun b w => in_n z w.1.1 w.1.2)))
  rw [y]
  refine Pc.neg (by decide) ?_
  obtain ⟨b, bc, hb⟩ := in_b z
  have n1 := ncT (show 0 ≤ x1.toInt by omega)
  have n2 : Int32.toNatClampNeg x1 = b := by omega
  have un (b' : Nat) (w : RPO T (hi q1 263) x1 x2 b') : b' = b := by have := w.1.2; omega
  refine Pc.bind (ir_r (b := b) (by omega) hb) (fun q6 h6 => ?_)
  obtain ⟨t4, t5⟩ := h6
  rw [t4, t5]
  refine Pc.ite (fun z0 => Pc.ret (no' (fun b' w => ?_))) (fun z0 => ?_)
  · have e := un b' w
    subst e
    exact w.2.1 z0
  have go (no : ∀ k, k < T.go.length → hi q1 263 (51 + k) ≠ x1) (ok : x2 = 0 ∨ ¬ 0 < (hi q1 263 b).toInt) : Pc ((F_X12_records n (wrI q1 263 50 ((hi q1 263 50) ^^^ ((1 : Int32) <<< (x1 &&& 31))))).bind (fun q10 => some ((1 : Int32), q10))) (fun q => ∃ f, RFW h f ∧ (((∀ b, ¬ RPO T f x1 x2 b) ∧ q.1 = 0 ∧ frZ bgJ h q.2) ∨ ∃ b, RPO T f x1 x2 b ∧ q.1 = 1 ∧ DNr (rpF f x1) h q.2)) := by
    generalize eg : wrI q1 263 50 ((hi q1 263 50) ^^^ ((1 : Int32) <<< (x1 &&& 31))) = hb'
    have row : hi hb' 263 = rpF (hi q1 263) x1 := by
      rw [← eg, wr_up]
      rfl
    have fb : frZ bgJ h hb' := by
      rw [← eg]
      exact cp.bg.w (by unfold bgJ; omega)
    exact Pc.bind (fun y e' => And.intro (kp_r (by rw [fb.1 226 59 (by unfold bgJ; omega)]; exact r59) y e') (zf_X12_records y e')) (fun q12 h12 => Pc.ret ⟨hi q1 263, cp.1, Or.inr ⟨b, ⟨⟨bc, hb⟩, z0, no, ok⟩, rfl, hb', fb, fun k _ => congrFun row k, h12.1, h12.2⟩⟩)
  refine Pc.ite (fun z2 => go (fun k hk w => ?_) (Or.inl z2)) (fun z2 => Pc.chk (fun _ => ?_))
  · have br : bt (hi q1 263 50) b = true := by
      by_cases u : bt (hi q1 263 50) b = true
      · exact u
      · rw [if_neg u] at z0
        exact absurd z2.symm z0
    have := (rvf.2.2.1 k hk).2
    rw [w, show x1.toInt.toNat = b by omega, br] at this
    exact absurd this (by decide)
  rw [n2]
  refine Pc.lt (fun z3 => Pc.ret (no' (fun b' w => ?_))) (fun z3 => ?_)
  · have e := un b' w
    subst e
    rcases w.2.2.2 with w | w
    · exact z2 w
    · exact w (by omega)
  refine Pc.bind (wa_r v en1) (fun q14 h14 => ?_)
  obtain ⟨t7, t8⟩ := h14
  have t9 := gi_no G5 t8
  rw [t7]
  exact Pc.ite (fun z4 => go (t9.mp z4) (Or.inr (by omega))) (fun z4 => Pc.ret (no' (fun b' w => z4 (t9.mpr w.2.2.1))))
/-- roped by both -/
theorem rp_rl {q1 q2 : Int32 × Hp} {n1 n2 : Nat} (r : RLs s T h0) (e1 : F_X11_rope n1 h0 x1 x2 = some q1) (e2 : F_X12_rope n2 q1.2 x1 x2 = some q2) : q1.1 = q2.1 ∧ RLs s T q2.2 := by
  have k1 := frZ.hr (zf_X11_rope q1 e1) (fun x k z => by omega)
  have r0 := r
  obtain ⟨⟨v, bd, en, sd⟩, ⟨sc, rv⟩, -, -⟩ := r
  have c25 := (wg_T v).1
  have G5 := v.2.2.1.1
  obtain ⟨en1, sd1, e262, r59⟩ := r0.ref k1
  obtain ⟨f, rf, k⟩ := rp_r v en1 (by rw [e262]; exact rv) r59 q2 e2
  have rf0 (k : Nat) (hk : k < 63) : f k = hi h0 262 k := by rw [rf k hk, e262]
  have scf := sc.cg (g := f) c25 G5 rf0
  have rvf := rv.cg (g := f) G5 (fun k hk => rf0 k (by omega))
  rcases rp_c v bd scf rvf r0.rg q1 e1 with ⟨a1, a2, a3⟩ | ⟨b, a1, a2, a3⟩
  · rcases k with ⟨-, d2, d3⟩ | ⟨b', d1, -⟩
    · refine ⟨a2.trans d2.symm, r0.ke ?_⟩
      rw [a3] at d3
      exact rlK.z d3 (fun x k z => by unfold bgJ at z; unfold rlC; omega)
    · exact absurd d1 (a1 b')
  · rcases k with ⟨d1, -⟩ | ⟨b', d1, d2, d3⟩
    · exact absurd a1 (d1 b)
    · exact ⟨a2.trans d2.symm, r0.done k1 a3 d3 (rvf.rp c25 G5 a1.1.1 a1.1.2 a1.2.2.1)⟩
/-! a goer is carried -/
theorem cr_c (v : VT T) (bd : BDF T 23 h) (sc : SCR (wT T * gT T) T.go.length f 30 h) (r : 0 ≤ (hi h 38 1).toInt ∧ (hi h 38 1).toInt ≤ 39) : Pc (F_X11_carry n h x1 x2) (fun q => ((∀ g b, ¬ CRO T f x1 x2 g b) ∧ q.1 = 0 ∧ q.2 = h) ∨ ∃ g b, CRO T f x1 x2 g b ∧ q.1 = 1 ∧ DNc T (upF f (51 + g) x2) h q.2) := by
  obtain ⟨c25, ⟨w2, w5⟩, ⟨g2, g5⟩, -, -⟩ := wg_T v
  have G5 := v.2.2.1.1
  unfold F_X11_carry
  refine Pc.bind (hg_c bd G5) (fun q1 h1 => ?_)
  obtain ⟨t1, t2⟩ := h1
  rw [t1]
  rcases t2 with ⟨y, z⟩ | ⟨y, z⟩
  · rw [y]
    exact Pc.pos rfl (Pc.ret (Or.inl ⟨fun g b w => in_n z w.1.1 w.1.2, rfl, rfl⟩))
  rw [y]
  refine Pc.neg (by decide) ?_
  obtain ⟨g, gG, hg⟩ := in_b z
  refine Pc.bind (hs_c bd.1 w5 g5) (fun q4 h4 => ?_)
  obtain ⟨t3, t4⟩ := h4
  rw [t3]
  rcases t4 with ⟨y2, z2⟩ | ⟨y2, z2⟩
  · rw [y2]
    exact Pc.pos rfl (Pc.ret (Or.inl ⟨fun g b w => in_n z2 w.2.1.1 w.2.1.2, rfl, rfl⟩))
  rw [y2]
  refine Pc.neg (by decide) (Pc.chk (fun _ => ?_))
  obtain ⟨b, bc, hb⟩ := in_b z2
  have n1 := ncT (show 0 ≤ x1.toInt by omega)
  have n2 : Int32.toNatClampNeg x1 = g := by omega
  have un (g' b' : Nat) (w : CRO T f x1 x2 g' b') : g' = g ∧ b' = b := by
    have := w.1.2
    have := w.2.1.2
    omega
  rw [n2, (sc.2.2.2 g gG).1]
  refine Pc.ite (fun z3 => Pc.ret (Or.inl ⟨fun g' b' w => ?_, rfl, rfl⟩)) (fun z3 => ?_)
  · obtain ⟨e1, e2⟩ := un g' b' w
    subst e1
    exact w.2.2.1 z3
  refine Pc.bind (ro_c sc (b := b) (by omega) hb) (fun q9 h9 => ?_)
  obtain ⟨t5, t6⟩ := h9
  rw [t5, t6]
  by_cases z4 : bt (f 50) b = true
  · rw [if_pos z4]
    refine Pc.neg (by decide) (Pc.ret (Or.inl ⟨fun g' b' w => ?_, rfl, rfl⟩))
    obtain ⟨e1, e2⟩ := un g' b' w
    subst e2
    have := w.2.2.2
    rw [z4] at this
    exact absurd this (by decide)
  rw [if_neg z4]
  refine Pc.pos rfl ?_
  refine Pc.bind (kp_c r) (fun q11 kc => Pc.chk (fun _ => Pc.ret (Or.inr ⟨g, b, ⟨⟨gG, hg⟩, ⟨bc, hb⟩, z3, Bool.eq_false_iff.mpr z4⟩, rfl, q11, kc, fun a k h1 => ?_, ?_⟩)))
  · show hi (wrI q11 32 _ _) a k = _
    rw [hi_wrI, if_neg (by omega)]
  · have fr (a k : Nat) (h1 : a < 38) : hi q11 a k = hi h a k := kc.fr a k (by omega) (by omega)
    have sc7 : SCR (wT T * gT T) T.go.length f 30 q11 := sc.to c25 G5 (fun j _ => fr 30 j (by decide)) (fun j _ => fr 31 j (by decide)) (fun j _ => fr 32 j (by decide)) (fun j _ => fr 33 j (by decide))
    exact sc7.go c25 G5 (by omega)
theorem cr_r (v : VT T) (e : EN2 s T h) (r59 : 0 ≤ (hi h 226 59).toInt ∧ (hi h 226 59).toInt ≤ 40) : Pc (F_X12_carry n h x1 x2) (fun q => ∃ f, RFW h f ∧ (((∀ g b, ¬ CRO T f x1 x2 g b) ∧ q.1 = 0 ∧ frZ bgJ h q.2) ∨ ∃ g b, CRO T f x1 x2 g b ∧ q.1 = 1 ∧ DNr (upF f (51 + g) x2) h q.2)) := by
  have c25 := (wg_T v).1
  have G5 := v.2.2.1.1
  have f51 := lit_51
  unfold F_X12_carry
  refine Pc.bind (cp_r e) (fun q1 cp => ?_)
  have en1 := cp.en e
  have no' (hr : ∀ g b, ¬ CRO T (hi q1 263) x1 x2 g b) : ∃ f, RFW h f ∧ (((∀ g b, ¬ CRO T f x1 x2 g b) ∧ (0 : Int32) = 0 ∧ frZ bgJ h q1) ∨ ∃ g b, CRO T f x1 x2 g b ∧ (0 : Int32) = 1 ∧ DNr (upF f (51 + g) x2) h q1) := ⟨hi q1 263, cp.1, Or.inl ⟨hr, rfl, cp.bg⟩⟩
  refine Pc.bind (ig_r v en1) (fun q3 h3 => ?_)
  obtain ⟨t1, t2⟩ := h3
  rw [t1]
  rcases t2 with ⟨y, z⟩ | ⟨y, z⟩
  · rw [y]
    exact Pc.pos rfl (Pc.ret (no' (fun g b w => in_n z w.1.1 w.1.2)))
  rw [y]
  refine Pc.neg (by decide) ?_
  obtain ⟨g, gG, hg⟩ := in_b z
  refine Pc.bind (ic_r v en1) (fun q6 h6 => ?_)
  obtain ⟨t3, t4⟩ := h6
  rw [t3]
  rcases t4 with ⟨y2, z2⟩ | ⟨y2, z2⟩
  · rw [y2]
    exact Pc.pos rfl (Pc.ret (no' (fun g b w => in_n z2 w.2.1.1 w.2.1.2)))
  rw [y2]
  refine Pc.neg (by decide) ?_
  obtain ⟨b, bc, hb⟩ := in_b z2
  have a1 := adT 51 x1 (by omega) (by omega)
  have n1 := ncT (show 0 ≤ (51 + x1).toInt by omega)
  have n2 : Int32.toNatClampNeg (51 + x1) = 51 + g := by omega
  have un (g' b' : Nat) (w : CRO T (hi q1 263) x1 x2 g' b') : g' = g ∧ b' = b := by
    have := w.1.2
    have := w.2.1.2
    omega
  refine Pc.bind (ir_r (b := b) (by omega) hb) (fun q9 h9 => ?_)
  obtain ⟨t5, t6⟩ := h9
  rw [t5, t6]
  by_cases z4 : bt (hi q1 263 50) b = true
  · rw [if_pos z4]
    refine Pc.neg (by decide) (Pc.ret (no' (fun g' b' w => ?_)))
    obtain ⟨e1, e2⟩ := un g' b' w
    subst e2
    have := w.2.2.2
    rw [z4] at this
    exact absurd this (by decide)
  rw [if_neg z4, n2]
  refine Pc.pos rfl (Pc.chk (fun _ => ?_))
  refine Pc.ite (fun z3 => Pc.ret (no' (fun g' b' w => ?_))) (fun z3 => Pc.chk (fun _ => ?_))
  · obtain ⟨e1, e2⟩ := un g' b' w
    subst e1
    exact w.2.2.1 z3
  generalize eg : wrI q1 263 (51 + g) x2 = hb'
  have row : hi hb' 263 = upF (hi q1 263) (51 + g) x2 := by rw [← eg, wr_up]
  have fb : frZ bgJ h hb' := by
    rw [← eg]
    exact cp.bg.w (by unfold bgJ; omega)
  exact Pc.bind (fun y e' => And.intro (kp_r (by rw [fb.1 226 59 (by unfold bgJ; omega)]; exact r59) y e') (zf_X12_records y e')) (fun q12 h12 => Pc.ret ⟨hi q1 263, cp.1, Or.inr ⟨g, b, ⟨⟨gG, hg⟩, ⟨bc, hb⟩, z3, Bool.eq_false_iff.mpr z4⟩, rfl, hb', fb, fun k _ => congrFun row k, h12.1, h12.2⟩⟩)
/-- carried by both -/
theorem cr_rl {q1 q2 : Int32 × Hp} {n1 n2 : Nat} (r : RLs s T h0) (e1 : F_X11_carry n1 h0 x1 x2 = some q1) (e2 : F_X12_carry n2 q1.2 x1 x2 = some q2) : q1.1 = q2.1 ∧ RLs s T q2.2 := by
  have k1 := frZ.hr (zf_X11_carry q1 e1) (fun x k z => by omega)
  have r0 := r
  obtain ⟨⟨v, bd, en, sd⟩, ⟨sc, rv⟩, -, -⟩ := r
  have c25 := (wg_T v).1
  have G5 := v.2.2.1.1
  obtain ⟨en1, sd1, e262, r59⟩ := r0.ref k1
  obtain ⟨f, rf, k⟩ := cr_r v en1 r59 q2 e2
  have rf0 (k : Nat) (hk : k < 63) : f k = hi h0 262 k := by rw [rf k hk, e262]
  have scf := sc.cg (g := f) c25 G5 rf0
  have rvf := rv.cg (g := f) G5 (fun k hk => rf0 k (by omega))
  rcases cr_c v bd scf r0.rg q1 e1 with ⟨a1, a2, a3⟩ | ⟨g, b, a1, a2, a3⟩
  · rcases k with ⟨-, d2, d3⟩ | ⟨g', b', d1, -⟩
    · refine ⟨a2.trans d2.symm, r0.ke ?_⟩
      rw [a3] at d3
      exact rlK.z d3 (fun x k z => by unfold bgJ at z; unfold rlC; omega)
    · exact absurd d1 (a1 g' b')
  · rcases k with ⟨d1, -⟩ | ⟨g', b', d1, d2, d3⟩
    · exact absurd a1 (d1 g b)
    · have e : g' = g := by have := a1.1.2; have := d1.1.2; omega
      subst e
      exact ⟨a2.trans d2.symm, r0.done k1 a3 d3 (rvf.go G5 c25 a1.1.1 (d := b) a1.2.1.2 a1.2.1.1 a1.2.2.2)⟩
/-! beats go by -/
theorem bt_c (v : VT T) (bd : BDF T 23 h) (sc : SCR (wT T * gT T) T.go.length f 30 h) (rv : RVR (wT T * gT T) T.go.length f) (r : 0 ≤ (hi h 38 1).toInt ∧ (hi h 38 1).toInt ≤ 39) : Pc (F_X11_beats n h x1) (fun q => (¬ inL x1 ∧ q.1 = -1 ∧ q.2 = h) ∨ (x1.toInt = 0 ∧ q.1 = f 61 ∧ q.2 = h) ∨ ∃ m : Nat, (inL x1 ∧ x1.toInt ≠ 0 ∧ x1.toInt = (m : Int)) ∧ q.1 = itB T m f 61 ∧ DNc T (itB T m f) h q.2 ∧ RVR (wT T * gT T) T.go.length (itB T m f)) := by
  have c25 := (wg_T v).1
  have G5 := v.2.2.1.1
  have f0 := lit_0
  unfold F_X11_beats
  refine Pc.bind sp_c (fun q1 h1 => ?_)
  obtain ⟨t1, t2⟩ := h1
  rw [t1]
  rcases t2 with ⟨y, z⟩ | ⟨y, z⟩
  · rw [y]
    exact Pc.pos rfl (Pc.ret (Or.inl ⟨z, rfl, rfl⟩))
  rw [y]
  refine Pc.neg (by decide) ?_
  have z1 := z.1
  have z2 := z.2
  refine Pc.le (fun w => Pc.ret (Or.inr (Or.inl ⟨by omega, sc.1.1, rfl⟩))) (fun w => ?_)
  obtain ⟨m, hm⟩ : ∃ m : Nat, x1.toInt = (m : Int) := ⟨x1.toInt.toNat, by omega⟩
  refine Pc.bind (kp_c r) (fun q5 kc => ?_)
  have fr (a k : Nat) (h1 : a < 38) : hi q5 a k = hi h a k := kc.fr a k (by omega) (by omega)
  have bd5 : BDF T 23 q5 := bd.at (fun y k h1 h2 => fr y k (by omega))
  have sc5 : SCR (wT T * gT T) T.go.length f 30 q5 := sc.to c25 G5 (fun j _ => fr 30 j (by decide)) (fun j _ => fr 31 j (by decide)) (fun j _ => fr 32 j (by decide)) (fun j _ => fr 33 j (by decide))
  refine Pc.bind (fun y e => And.intro (gn_c v (by decide) hm bd5 sc5 rv y e) (zf_X0_goOn y e)) (fun q7 h7 => ?_)
  obtain ⟨⟨s7, r7⟩, z7⟩ := h7
  exact Pc.ret (Or.inr (Or.inr ⟨m, ⟨z, by omega, hm⟩, s7.1.1, ⟨q5, kc, fun a k h1 => z7.1 a k (by omega), s7⟩, r7⟩))
theorem bt_r (v : VT T) (e : EN2 s T h) (sd : SD5 T h) (rv : RVR (wT T * gT T) T.go.length (hi h 262)) (r59 : 0 ≤ (hi h 226 59).toInt ∧ (hi h 226 59).toInt ≤ 40) : Pc (F_X12_beats n h x1) (fun q => ∃ f, RFW h f ∧ ((¬ inL x1 ∧ q.1 = -1 ∧ frZ bgJ h q.2) ∨ (x1.toInt = 0 ∧ q.1 = f 61 ∧ frZ bgJ h q.2) ∨ ∃ m : Nat, (inL x1 ∧ x1.toInt ≠ 0 ∧ x1.toInt = (m : Int)) ∧ q.1 = itB T m f 61 ∧ DNr (itB T m f) h q.2)) := by
  have c25 := (wg_T v).1
  have G5 := v.2.2.1.1
  have f0 := lit_0
  unfold F_X12_beats
  refine Pc.bind sp_r (fun q1 h1 => ?_)
  obtain ⟨t1, t2⟩ := h1
  rw [t1]
  rcases t2 with ⟨y, z⟩ | ⟨y, z⟩
  · rw [y]
    exact Pc.pos rfl (Pc.ret ⟨hi h 262, fun _ _ => rfl, Or.inl ⟨z, rfl, frZ.rf h⟩⟩)
  rw [y]
  refine Pc.neg (by decide) ?_
  have z1 := z.1
  have z2 := z.2
  refine Pc.eq (fun w => Pc.ret ⟨hi h 262, fun _ _ => rfl, Or.inr (Or.inl ⟨by omega, rfl, frZ.rf h⟩)⟩) (fun w => ?_)
  obtain ⟨m, hm⟩ : ∃ m : Nat, x1.toInt = (m : Int) := ⟨x1.toInt.toNat, by omega⟩
  refine Pc.bind (cp_r e) (fun q5 cp => ?_)
  have en5 := cp.en e
  have rvf : RVR (wT T * gT T) T.go.length (hi q5 263) := rv.cg G5 (fun k hk => cp.1 k (by omega))
  refine Pc.bind (go_r v hm en5 (cp.sd sd) rvf cp.2.1.1 cp.2.1.2) (fun q7 h7 => ?_)
  obtain ⟨z7, d7, -⟩ := h7
  have fb : frZ bgJ h q7 := cp.bg.tr (z7.sub (fun x k z => by unfold bgF at z; unfold bgJ; omega))
  refine Pc.bind (fun y e' => And.intro (kp_r (by rw [fb.1 226 59 (by unfold bgJ; omega)]; exact r59) y e') (zf_X12_records y e')) (fun q9 h9 => Pc.ret ⟨hi q5 263, cp.1, Or.inr (Or.inr ⟨m, ⟨z, by omega, hm⟩, ?_, q7, fb, fun k _ => d7 k, h9.1, h9.2⟩)⟩)
  exact (h9.1.1 61 (by decide)).trans (d7 61)
/-- beats by both -/
theorem bt_rl {q1 q2 : Int32 × Hp} {n1 n2 : Nat} (r : RLs s T h0) (e1 : F_X11_beats n1 h0 x1 = some q1) (e2 : F_X12_beats n2 q1.2 x1 = some q2) : q1.1 = q2.1 ∧ RLs s T q2.2 := by
  have k1 := frZ.hr (zf_X11_beats q1 e1) (fun x k z => by omega)
  have f0 := lit_0
  have r0 := r
  obtain ⟨⟨v, bd, en, sd⟩, ⟨sc, rv⟩, -, -⟩ := r
  have c25 := (wg_T v).1
  have G5 := v.2.2.1.1
  obtain ⟨en1, sd1, e262, r59⟩ := r0.ref k1
  obtain ⟨f, rf, k⟩ := bt_r v en1 sd1 (by rw [e262]; exact rv) r59 q2 e2
  have rf0 (k : Nat) (hk : k < 63) : f k = hi h0 262 k := by rw [rf k hk, e262]
  have scf := sc.cg (g := f) c25 G5 rf0
  have rvf := rv.cg (g := f) G5 (fun k hk => rf0 k (by omega))
  have same (a3 : q1.2 = h0) (d3 : frZ bgJ q1.2 q2.2) : RLs s T q2.2 := by
    rw [a3] at d3
    exact r0.ke (rlK.z d3 (fun x k z => by unfold bgJ at z; unfold rlC; omega))
  rcases bt_c v bd scf rvf r0.rg q1 e1 with ⟨a1, a2, a3⟩ | ⟨a1, a2, a3⟩ | ⟨m, a1, a2, a3, a4⟩
  · rcases k with ⟨-, d2, d3⟩ | ⟨d1, -⟩ | ⟨m', d1, -⟩
    · exact ⟨a2.trans d2.symm, same a3 d3⟩
    · exact absurd ⟨by omega, by omega⟩ a1
    · exact absurd d1.1 a1
  · rcases k with ⟨d1, -⟩ | ⟨-, d2, d3⟩ | ⟨m', d1, -⟩
    · exact absurd ⟨by omega, by omega⟩ d1
    · exact ⟨a2.trans d2.symm, same a3 d3⟩
    · exact absurd a1 d1.2.1
  · rcases k with ⟨d1, -⟩ | ⟨d1, -⟩ | ⟨m', d1, d2, d3⟩
    · exact absurd a1.1 d1
    · exact absurd d1 a1.2.1
    · have e : m' = m := by have := a1.2.2; have := d1.2.2; omega
      subst e
      exact ⟨a2.trans d2.symm, r0.done k1 a3 d3 a4⟩
end R56T
