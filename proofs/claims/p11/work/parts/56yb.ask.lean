/-! ASKS, alike in both: cell, goer, loud, together, silence, chorus -/
section RYB0
variable {A A' B B' : Option (Int32 × Hp)}
theorem J2.yn {y1 y2 : Int32} {P : Prop} (a : YN y1 P) (b : YN y2 P) (k1 : ¬ P → J2 A B) (k2 : P → J2 A' B') : J2 (if y1 = 0 then A else A') (if y2 = 0 then B else B') := by
  rcases a with ⟨a1, a2⟩ | ⟨a1, a2⟩
  · rcases b with ⟨b1, -⟩ | ⟨-, b2⟩
    · rw [a1, b1]; exact J2.pl rfl (J2.pr rfl (k1 a2))
    · exact absurd b2 a2
  · rcases b with ⟨-, b2⟩ | ⟨b1, -⟩
    · exact absurd a2 b2
    · rw [a1, b1]; exact J2.ml (by decide) (J2.mr (by decide) (k2 a2))
theorem J2.itn {c d : Prop} [Decidable c] [Decidable d] (e : c ↔ ¬ d) (k1 : c → J2 A B') (k2 : ¬ c → J2 A' B) : J2 (if c then A else A') (if d then B else B') := by
  by_cases y : c
  · rw [if_pos y, if_neg (e.mp y)]; exact k1 y
  · rw [if_neg y, if_pos (Classical.byContradiction (fun z => y (e.mpr z)))]; exact k2 y
end RYB0
theorem ad1_sb (a b : Int32) : (a + 1) - b = (a - b) + 1 := by
  rw [Int32.sub_eq_add_neg, Int32.sub_eq_add_neg, Int32.add_assoc, Int32.add_assoc, Int32.add_comm 1]
theorem le_nlt {a b : Int32} : a ≤ b ↔ ¬ b < a := by
  rw [Int32.le_iff_toInt_le, Int32.lt_iff_toInt_lt]
  omega
theorem nz_iff {a b : Int32} {P : Prop} (ha : a.toInt ≠ 0 ↔ P) (hb : b.toInt ≠ 0 ↔ P) : a = 0 ↔ b = 0 := by
  have f0 := lit_0
  have k (x : Int32) : x = 0 ↔ ¬ x.toInt ≠ 0 := ⟨fun z w => w (by rw [z]; exact f0), fun z => Int32.toInt_inj.mp ((Classical.not_not.mp z).trans f0.symm)⟩
  rw [k a, k b, ha, hb]
section RYB
variable {s : Nat} {T : TT} {h h0 q g : Hp} {n n1 n2 : Nat} {x1 x2 x3 : Int32} {f : Nat → Int32}
theorem je_cell (r : RLs s T h0) (k1 : ∀ a k, 226 ≤ a → hi q a k = hi h0 a k) : J2 (F_X11_cell n1 h0 x1 x2) (F_X12_cell n2 q x1 x2) := by
  obtain ⟨en, sd, e262, r59⟩ := r.ref k1
  have v := r.1.1
  have bd := r.1.2.1
  obtain ⟨c25, ⟨w2, w5⟩, ⟨g2, g5⟩, -, -⟩ := wg_T v
  have G5 := v.2.2.1.1
  have f0 := lit_0
  have f25 := lit_25
  unfold F_X11_cell F_X12_cell
  refine J2.bind (hs_c bd.1 w5 g5) (ic_r v en) (fun a b ha hb => ?_)
  obtain ⟨t1, t2⟩ := ha
  obtain ⟨u1, u2⟩ := hb
  rw [t1, u1]
  refine J2.yn t2 u2 (fun _ => J2.ret rfl) (fun z => ?_)
  obtain ⟨b, bc, hb⟩ := in_b z
  have n1' := ncT (show 0 ≤ x1.toInt by omega)
  have nb : Int32.toNatClampNeg x1 = b := by omega
  have a1 := adT 25 x1 (by omega) (by omega)
  have n3 := ncT (show 0 ≤ (25 + x1).toInt by omega)
  have n4 : Int32.toNatClampNeg (25 + x1) = 25 + b := by omega
  refine J2.br (cp_r en) (fun q4 cp => ?_)
  obtain ⟨sc, rv⟩ := r.row e262 cp.1
  have en4 := cp.en en
  refine J2.bl (tu_c sc (b := b) (by omega) hb) (fun y hy => ?_)
  obtain ⟨t4, t5, t6⟩ := hy
  rw [t4, nb, n4]
  have zt : y.1 = 0 ↔ hi q4 263 b = 0 := by
    refine ⟨fun z0 => rv_0 rv (by omega) (fun w => t6.mpr w z0), fun z0 => Classical.byContradiction (fun w => ?_)⟩
    have := (t6.mp w).2
    rw [z0, f0] at this
    exact absurd this (by decide)
  refine J2.ite Iff.rfl (fun _ => J2.cr (fun _ => J2.ite zt (fun _ => J2.ret rfl) (fun _ => ?_))) (fun _ => ?_)
  · exact J2.bl (be_c sc rv (b := b) (by omega) hb) (fun x hx => J2.cr (fun _ => J2.ret hx.2))
  refine J2.ite Iff.rfl (fun _ => J2.cr (fun _ => J2.ite zt (fun _ => J2.ret rfl) (fun w => ?_))) (fun _ => ?_)
  · exact J2.bl (of_c sc rv (b := b) bc c25 (t6.mp w).2 hb) (fun x hx => J2.cr (fun _ => J2.ret hx.2))
  refine J2.ite Iff.rfl (fun _ => ?_) (fun _ => ?_)
  · rw [sc.1.1]
    exact J2.bind (so_c sc rv c25 (b := b) bc hb) (il_r (b := b) (by omega) hb) (fun x y hx hy => J2.ite (by rw [hx.2, hy.2]) (fun _ => J2.ret rfl) (fun _ => J2.ret rfl))
  refine J2.ite Iff.rfl (fun _ => ?_) (fun _ => ?_)
  · exact J2.bind (ro_c sc (b := b) (by omega) hb) (ir_r (b := b) (by omega) hb) (fun x y hx hy => J2.ite (by rw [hx.2, hy.2]) (fun _ => J2.ret rfl) (fun _ => J2.ret rfl))
  refine J2.ite Iff.rfl (fun _ => ?_) (fun _ => ?_)
  · exact J2.bind (gi_c G5 sc bd.2.1.1) (wa_r v en4) (fun x y hx hy => J2.ret (bt_ext (fun j hj => by rw [hx.2 j hj, hy.2 j hj])))
  refine J2.ite Iff.rfl (fun _ => ?_) (fun _ => J2.ret rfl)
  exact J2.bind (co_c v bd sc rv (by decide) (b := b) bc hb) (co_r v en4 (b := b) bc hb) (fun x y hx hy => J2.ret (hx.trans hy.symm))
theorem so_r (v : VT T) (e : EN2 s T h) (sd : SD5 T h) (rv : RVR (wT T * gT T) T.go.length (hi h 263)) {g : Nat} (gG : g < T.go.length) (hg : x1.toInt = (g : Int)) : Pc (F_X12_stepOf n h x1) (fun q => q.1.toInt = ((stF T (hi h 263) (hi h 263 (51 + g)).toInt.toNat (hi h 263 (56 + g)) x1 0 : Nat) : Int)) := by
  have G5 := v.2.2.1.1
  have f51 := lit_51
  have a1 := adT 51 x1 (by omega) (by omega)
  have n3 := ncT (show 0 ≤ (51 + x1).toInt by omega)
  have n4 : Int32.toNatClampNeg (51 + x1) = 51 + g := by omega
  obtain ⟨⟨z1, z2⟩, z3⟩ := rv.2.2.1 g gG
  unfold F_X12_stepOf
  rw [n4]
  refine Pc.chk (fun _ => ?_)
  exact Pc.bind (wo_r v e sd (g := g) (b := (hi h 263 (51 + g)).toInt.toNat) (by omega) hg (by omega) (by omega) (k := 0) (by decide) lit_0 rfl) (fun q hq => Pc.ret hq)
theorem mo_r (v : VT T) (e : EN2 s T h) (sd : SD5 T h) (rv : RVR (wT T * gT T) T.go.length (hi h 263)) {g : Nat} (gG : g < T.go.length) (hg : x1.toInt = (g : Int)) : Pc (F_X12_moveOf n h x1) (fun q => q.1.toInt = ((stF T (hi h 263) (hi h 263 (51 + g)).toInt.toNat (hi h 263 (56 + g)) x1 1 : Nat) : Int)) := by
  have G5 := v.2.2.1.1
  have f51 := lit_51
  have a1 := adT 51 x1 (by omega) (by omega)
  have n3 := ncT (show 0 ≤ (51 + x1).toInt by omega)
  have n4 : Int32.toNatClampNeg (51 + x1) = 51 + g := by omega
  obtain ⟨⟨z1, z2⟩, z3⟩ := rv.2.2.1 g gG
  unfold F_X12_moveOf
  rw [n4]
  refine Pc.chk (fun _ => ?_)
  exact Pc.bind (wo_r v e sd (g := g) (b := (hi h 263 (51 + g)).toInt.toNat) (by omega) hg (by omega) (by omega) (k := 1) (by decide) lit_1 rfl) (fun q hq => Pc.ret hq)
theorem je_goer (r : RLs s T h0) (k1 : ∀ a k, 226 ≤ a → hi q a k = hi h0 a k) : J2 (F_X11_goer n1 h0 x1 x2) (F_X12_goer n2 q x1 x2) := by
  obtain ⟨en, sd, e262, r59⟩ := r.ref k1
  have v := r.1.1
  have bd := r.1.2.1
  have c25 := (wg_T v).1
  have G5 := v.2.2.1.1
  have f0 := lit_0
  have f1 := lit_1
  have f51 := lit_51
  have f56 := lit_56
  unfold F_X11_goer F_X12_goer
  refine J2.bind (hg_c bd G5) (ig_r v en) (fun a b ha hb => ?_)
  obtain ⟨t1, t2⟩ := ha
  obtain ⟨u1, u2⟩ := hb
  rw [t1, u1]
  refine J2.yn t2 u2 (fun _ => J2.ret rfl) (fun z => ?_)
  obtain ⟨g, gG, hg⟩ := in_b z
  have n1' := ncT (show 0 ≤ x1.toInt by omega)
  have nb : Int32.toNatClampNeg x1 = g := by omega
  have a1 := adT 51 x1 (by omega) (by omega)
  have n3 := ncT (show 0 ≤ (51 + x1).toInt by omega)
  have n4 : Int32.toNatClampNeg (51 + x1) = 51 + g := by omega
  have a2 := adT 56 x1 (by omega) (by omega)
  have n5 := ncT (show 0 ≤ (56 + x1).toInt by omega)
  have n6 : Int32.toNatClampNeg (56 + x1) = 56 + g := by omega
  refine J2.br (cp_r en) (fun q4 cp => ?_)
  obtain ⟨sc, rv⟩ := r.row e262 cp.1
  have en4 := cp.en en
  have sd4 := cp.sd sd
  obtain ⟨s1, s2⟩ := sc.2.2.2 g gG
  rw [nb, n4, n6]
  refine J2.ite Iff.rfl (fun _ => J2.cl (fun _ => J2.cr (fun _ => J2.ret s1))) (fun _ => ?_)
  refine J2.ite Iff.rfl (fun _ => J2.cl (fun _ => J2.cr (fun _ => J2.ret s2))) (fun _ => ?_)
  refine J2.ite Iff.rfl (fun _ => ?_) (fun _ => ?_)
  · exact J2.bind (wt_c v bd sc rv (by decide) gG hg (k := 0) (by decide) f0) (so_r v en4 sd4 rv gG hg) (fun x y hx hy => J2.ret (Int32.toInt_inj.mp (hx.trans hy.symm)))
  refine J2.ite Iff.rfl (fun _ => ?_) (fun _ => J2.ret rfl)
  exact J2.bind (wt_c v bd sc rv (by decide) gG hg (k := 1) (by decide) f1) (mo_r v en4 sd4 rv gG hg) (fun x y hx hy => J2.ret (Int32.toInt_inj.mp (hx.trans hy.symm)))
theorem je_loud (r : RLs s T h0) (k1 : ∀ a k, 226 ≤ a → hi q a k = hi h0 a k) : J2 (F_X11_loud n1 h0 x1) (F_X12_loud n2 q x1) := by
  obtain ⟨en, sd, e262, r59⟩ := r.ref k1
  have v := r.1.1
  have c25 := (wg_T v).1
  unfold F_X11_loud F_X12_loud
  refine J2.bind sp_c sp_r (fun a b ha hb => ?_)
  obtain ⟨t1, t2⟩ := ha
  obtain ⟨u1, u2⟩ := hb
  rw [t1, u1]
  refine J2.yn t2 u2 (fun _ => J2.ret rfl) (fun z => ?_)
  refine J2.br (cp_r en) (fun q4 cp => ?_)
  obtain ⟨sc, rv⟩ := r.row e262 cp.1
  rw [sc.1.1]
  exact J2.bind (la_c c25 sc rv) (lb_r v (cp.en en)) (fun x y hx hy => J2.ret (bt_ext (fun j hj => by rw [hx.2 j hj, hy.2 j hj])))
/-! together -/
theorem jt_tog (v : VT T) (sc : SCR (wT T * gT T) T.go.length (hi g 263) 30 h) (rv : RVR (wT T * gT T) T.go.length (hi g 263)) {b1 b2 : Nat} (c1 : b1 < wT T * gT T) (c2 : b2 < wT T * gT T) (h1 : x1.toInt = (b1 : Int)) (h2 : x2.toInt = (b2 : Int)) : ∀ (n1 n2 : Nat) (l3 : Int32), J2 (W_X11_together n1 26 h x1 x2 l3) (W_X12_together n2 24 g x1 x2 l3) := by
  intro n1
  have c25 := (wg_T v).1
  induction n1 with
  | zero => intro n2 l3; exact J2.nl
  | succ n1 ih =>
    intro n2 l3
    cases n2 with
    | zero => exact J2.nr
    | succ n2 =>
      rw [u_X11_together, u_X12_together]
      refine J2.pl rfl (J2.pr rfl (J2.ite Iff.rfl (fun _ => J2.ret rfl) (fun _ => ?_)))
      rw [sc.1.1]
      refine J2.bind (so_c sc rv c25 c1 h1) (il_r (b := b1) (by omega) h1) (fun a b ha hb => ?_)
      obtain ⟨a2, a1⟩ := ha
      obtain ⟨b2', b1'⟩ := hb
      rw [a2, b2']
      refine J2.ite (by rw [a1, b1']) (fun _ => ih n2 (l3 + 1)) (fun _ => ?_)
      rw [sc.1.1]
      refine J2.bind (so_c sc rv c25 c2 h2) (il_r (b := b2) (by omega) h2) (fun a b ha hb => ?_)
      obtain ⟨a2, a1⟩ := ha
      obtain ⟨b2', b1'⟩ := hb
      rw [a2, b2']
      exact J2.ite (by rw [a1, b1']) (fun _ => ih n2 (l3 + 1)) (fun _ => J2.ret rfl)
theorem je_together (r : RLs s T h0) (k1 : ∀ a k, 226 ≤ a → hi q a k = hi h0 a k) : J2 (F_X11_together n1 h0 x1 x2) (F_X12_together n2 q x1 x2) := by
  obtain ⟨en, sd, e262, r59⟩ := r.ref k1
  have v := r.1.1
  have bd := r.1.2.1
  obtain ⟨c25, ⟨w2, w5⟩, ⟨g2, g5⟩, -, -⟩ := wg_T v
  unfold F_X11_together F_X12_together
  refine J2.bind (hs_c bd.1 w5 g5) (ic_r v en) (fun a b ha hb => ?_)
  obtain ⟨t1, t2⟩ := ha
  obtain ⟨u1, u2⟩ := hb
  rw [t1, u1]
  refine J2.yn t2 u2 (fun _ => J2.ret rfl) (fun z => ?_)
  refine J2.bind (hs_c bd.1 w5 g5) (ic_r v en) (fun a b ha hb => ?_)
  obtain ⟨t3, t4⟩ := ha
  obtain ⟨u3, u4⟩ := hb
  rw [t3, u3]
  refine J2.yn t4 u4 (fun _ => J2.ret rfl) (fun z2 => ?_)
  obtain ⟨b1, c1, h1⟩ := in_b z
  obtain ⟨b2, c2, h2⟩ := in_b z2
  refine J2.br (cp_r en) (fun q4 cp => ?_)
  obtain ⟨sc, rv⟩ := r.row e262 cp.1
  exact jt_tog v sc rv c1 c2 h1 h2 _ _ 0
/-! silence, chorus -/
theorem jt_sil (v : VT T) (en : EN2 s T g) (sc : SCR (wT T * gT T) T.go.length (hi g 263) 30 h) (rv : RVR (wT T * gT T) T.go.length (hi g 263)) : ∀ (n1 n2 : Nat) (l2 l3 l4 l5 : Int32), J2 (W_X11_silence n1 20 h x1 l2 l3 l4 l5) (W_X12_silence n2 26 g x1 l2 l3 l4 l5) := by
  intro n1
  have c25 := (wg_T v).1
  induction n1 with
  | zero => intro n2 l2 l3 l4 l5; exact J2.nl
  | succ n1 ih =>
    intro n2 l2 l3 l4 l5
    cases n2 with
    | zero => exact J2.nr
    | succ n2 =>
      rw [u_X11_silence, u_X12_silence]
      refine J2.pl rfl (J2.pr rfl (J2.ite Iff.rfl (fun _ => J2.ite Iff.rfl (fun _ => J2.ret rfl) (fun _ => J2.ret rfl)) (fun _ => ?_)))
      rw [sc.1.1]
      refine J2.bind (la_c c25 sc rv) (lb_r v en) (fun a b ha hb => ?_)
      obtain ⟨a2, a1⟩ := ha
      obtain ⟨b2, b1⟩ := hb
      have e : a.1 = b.1 := bt_ext (fun j hj => by rw [a1 j hj, b1 j hj])
      rw [a2, b2, e]
      refine J2.ite Iff.rfl (fun _ => ?_) (fun _ => ?_)
      · refine J2.itn le_nlt (fun _ => ih n2 _ _ _ _) (fun _ => ?_)
        rw [ad1_sb]
        exact ih n2 _ _ _ _
      · refine J2.itn le_nlt (fun _ => ih n2 _ _ _ _) (fun _ => ?_)
        rw [ad1_sb]
        exact ih n2 _ _ _ _
theorem nn_iff {a b : Int32} (ha : a.toInt ≠ 0 ↔ 0 ≤ x1.toInt ∧ x1.toInt ≤ 1) (hb : b.toInt ≠ 0 ↔ (0 : Int32).toInt ≤ x1.toInt ∧ x1.toInt ≤ (1 : Int32).toInt) : a = 0 ↔ b = 0 := by
  rw [lit_0, lit_1] at hb
  exact nz_iff ha hb
theorem je_silence (r : RLs s T h0) (k1 : ∀ a k, 226 ≤ a → hi q a k = hi h0 a k) : J2 (F_X11_silence n1 h0 x1) (F_X12_silence n2 q x1) := by
  obtain ⟨en, sd, e262, r59⟩ := r.ref k1
  have v := r.1.1
  unfold F_X11_silence F_X12_silence
  refine J2.bind ez_nought ez_in (fun a b ha hb => ?_)
  obtain ⟨t1, t2⟩ := ha
  obtain ⟨u1, u2⟩ := hb
  rw [t1, u1]
  refine J2.ite (nn_iff t2 u2) (fun _ => J2.ret rfl) (fun _ => ?_)
  refine J2.br (cp_r en) (fun q4 cp => ?_)
  obtain ⟨sc, rv⟩ := r.row e262 cp.1
  exact jt_sil v (cp.en en) sc rv _ _ 0 (-2) 0 0
theorem jt_cho (v : VT T) (en : EN2 s T g) (sc : SCR (wT T * gT T) T.go.length (hi g 263) 30 h) (rv : RVR (wT T * gT T) T.go.length (hi g 263)) : ∀ (n1 n2 : Nat) (l2 l3 l4 : Int32), J2 (W_X11_chorus n1 16 h x1 l2 l3 l4) (W_X12_chorus n2 22 g x1 l2 l3 l4) := by
  intro n1
  have c25 := (wg_T v).1
  induction n1 with
  | zero => intro n2 l2 l3 l4; exact J2.nl
  | succ n1 ih =>
    intro n2 l2 l3 l4
    cases n2 with
    | zero => exact J2.nr
    | succ n2 =>
      rw [u_X11_chorus, u_X12_chorus]
      refine J2.pl rfl (J2.pr rfl (J2.ite Iff.rfl (fun _ => J2.ite Iff.rfl (fun _ => J2.ret rfl) (fun _ => J2.ret rfl)) (fun _ => ?_)))
      rw [sc.1.1]
      refine J2.bind (la_c c25 sc rv) (lb_r v en) (fun a b ha hb => ?_)
      obtain ⟨a2, a1⟩ := ha
      obtain ⟨b2, b1⟩ := hb
      have e : a.1 = b.1 := bt_ext (fun j hj => by rw [a1 j hj, b1 j hj])
      rw [a2, b2, e]
      refine J2.bind pc_bits bi_r (fun x y hx hy => ?_)
      obtain ⟨x2', x1'⟩ := hx
      obtain ⟨y2', y1'⟩ := hy
      have ct : cntB (bt b.1) 32 = cntB (bt b.1) 25 := cntB_skip (by decide) (fun m h1 h2 => by rw [b1 m h2, decide_eq_false (show ¬ m < wT T * gT T by omega), Bool.false_and])
      have exy : x.1 = y.1 := Int32.toInt_inj.mp (by rw [x1', y1', ct])
      rw [x2', y2', exy]
      exact J2.itn le_nlt (fun _ => ih n2 _ _ _) (fun _ => ih n2 _ _ _)
theorem je_chorus (r : RLs s T h0) (k1 : ∀ a k, 226 ≤ a → hi q a k = hi h0 a k) : J2 (F_X11_chorus n1 h0 x1) (F_X12_chorus n2 q x1) := by
  obtain ⟨en, sd, e262, r59⟩ := r.ref k1
  have v := r.1.1
  unfold F_X11_chorus F_X12_chorus
  refine J2.bind ez_nought ez_in (fun a b ha hb => ?_)
  obtain ⟨t1, t2⟩ := ha
  obtain ⟨u1, u2⟩ := hb
  rw [t1, u1]
  refine J2.ite (nn_iff t2 u2) (fun _ => J2.ret rfl) (fun _ => ?_)
  refine J2.br (cp_r en) (fun q4 cp => ?_)
  obtain ⟨sc, rv⟩ := r.row e262 cp.1
  exact jt_cho v (cp.en en) sc rv _ _ (-1) 0 0
end RYB
section RYBe
variable {h0 : Hp} {n1 n2 : Nat} {x1 x2 x3 : Int32} {q1 q2 : Int32 × Hp}
theorem eq_cell (w : Ir h0) (e1 : F_X11_cell n1 h0 x1 x2 = some q1) (e2 : F_X12_cell n2 q1.2 x1 x2 = some q2) : q1.1 = q2.1 := by
  obtain ⟨s, T, r⟩ := w.2
  exact je_cell r (frZ.hr (zf_X11_cell q1 e1) (fun x k z => by omega)) q1 q2 e1 e2
theorem eq_goer (w : Ir h0) (e1 : F_X11_goer n1 h0 x1 x2 = some q1) (e2 : F_X12_goer n2 q1.2 x1 x2 = some q2) : q1.1 = q2.1 := by
  obtain ⟨s, T, r⟩ := w.2
  exact je_goer r (frZ.hr (zf_X11_goer q1 e1) (fun x k z => by omega)) q1 q2 e1 e2
theorem eq_loud (w : Ir h0) (e1 : F_X11_loud n1 h0 x1 = some q1) (e2 : F_X12_loud n2 q1.2 x1 = some q2) : q1.1 = q2.1 := by
  obtain ⟨s, T, r⟩ := w.2
  exact je_loud r (frZ.hr (zf_X11_loud q1 e1) (fun x k z => z.elim)) q1 q2 e1 e2
theorem eq_together (w : Ir h0) (e1 : F_X11_together n1 h0 x1 x2 = some q1) (e2 : F_X12_together n2 q1.2 x1 x2 = some q2) : q1.1 = q2.1 := by
  obtain ⟨s, T, r⟩ := w.2
  exact je_together r (frZ.hr (zf_X11_together q1 e1) (fun x k z => z.elim)) q1 q2 e1 e2
theorem eq_silence (w : Ir h0) (e1 : F_X11_silence n1 h0 x1 = some q1) (e2 : F_X12_silence n2 q1.2 x1 = some q2) : q1.1 = q2.1 := by
  obtain ⟨s, T, r⟩ := w.2
  exact je_silence r (frZ.hr (zf_X11_silence q1 e1) (fun x k z => z.elim)) q1 q2 e1 e2
theorem eq_chorus (w : Ir h0) (e1 : F_X11_chorus n1 h0 x1 = some q1) (e2 : F_X12_chorus n2 q1.2 x1 = some q2) : q1.1 = q2.1 := by
  obtain ⟨s, T, r⟩ := w.2
  exact je_chorus r (frZ.hr (zf_X11_chorus q1 e1) (fun x k z => z.elim)) q1 q2 e1 e2
end RYBe
