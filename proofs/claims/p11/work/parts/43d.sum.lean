/-! SUMS: the class, one after another -/
section SV
variable {N : Nat} {kd pl vl : Nat → Int}
theorem pc_takeF (X : TX N kd pl vl) {h : Hp} {n : Nat} {x1 : Int32} {f : Int} {t : Nat} (C : CT N kd pl vl h) (T : tI2 N t) (S : cS h f t) (fz : f ≠ 0) : Pc (F_X7_take n h x1) (fun q => frK h q.2 ∧ cS q.2 f t ∧ q.1.toInt = 0) := by
  refine (pc_take X C T S).mono (fun q hq => ?_)
  obtain ⟨a, b, c⟩ := hq
  rw [tk_f fz] at b c
  exact ⟨a, b, c.mpr fz⟩
theorem pc_stopF {h : Hp} {n : Nat} {x1 : Int32} {f : Int} {t : Nat} (S : cS h f t) (fz : f ≠ 0) : Pc (F_X7_stop n h x1) (fun q => frK h q ∧ cS q f t) := by
  refine (pc_stop S).mono (fun q hq => ?_)
  have z := hq.2
  rw [if_neg fz] at z
  exact ⟨hq.1, z⟩
theorem pc_unitF (X : TX N kd pl vl) {S : Nat → Hp → Int32 → Option Hp} {h : Hp} {n : Nat} {x1 : Int32} {f : Int} {t : Nat} (C : CT N kd pl vl h) (T : tI2 N t) (Sc : cS h f t) (fz : f ≠ 0) : Pc (F_X7_readUnit S n h x1) (fun q => frL h q ∧ cS q f t) := by
  have f0 := lit_0
  unfold F_X7_readUnit F_X7_kind
  refine Pc.bind (Q := fun q => q.2 = h ∧ q.1.toInt = kd t) (Pc.bind (pc_kindOf X C T Sc.2) (fun q hq => Pc.ret hq)) (fun q1 h1 => ?_)
  rw [h1.1]
  have one : Pc ((F_X7_stop n h 1).bind (fun q => some q)) (fun q => frL h q ∧ cS q f t) := Pc.bind (pc_stopF Sc fz) (fun q hq => Pc.ret ⟨hq.1.l, hq.2⟩)
  have lp : Pc (if (x1 : Int32) < (6 : Int32) then ((F_X7_take n h q1.1).bind (fun q7 => (if (q7.1 : Int32) = (0 : Int32) then some q7.2 else ((S n q7.2 (x1 + 1)).bind (fun q10 => ((F_X7_take n q10 41).bind (fun q12 => some q12.2))))))) else ((F_X7_stop n h 2).bind (fun q14 => ((F_X7_take n q14 q1.1).bind (fun q16 => (if (q16.1 : Int32) = (0 : Int32) then some q16.2 else ((S n q16.2 (x1 + 1)).bind (fun q19 => ((F_X7_take n q19 41).bind (fun q21 => some q21.2)))))))))) (fun q => frL h q ∧ cS q f t) := by
    refine Pc.lt (fun _ => ?_) (fun _ => ?_)
    · refine Pc.bind (pc_takeF X C T Sc fz) (fun q7 h7 => ?_)
      exact Pc.eq (fun _ => Pc.ret ⟨h7.1.l, h7.2.1⟩) (fun c => absurd (h7.2.2.trans f0.symm) c)
    · refine Pc.bind (pc_stopF Sc fz) (fun q14 h14 => ?_)
      refine Pc.bind (pc_takeF X (C.cg h14.1.tk) T h14.2 fz) (fun q16 h16 => ?_)
      exact Pc.eq (fun _ => Pc.ret ⟨(h14.1.tr h16.1).l, h16.2.1⟩) (fun c => absurd (h16.2.2.trans f0.symm) c)
  refine Pc.eq (fun c => ?_) (fun c => ?_)
  · refine Pc.bind (pc_valueOf C T Sc.2) (fun q50 h50 => ?_)
    rw [h50.1]
    refine Pc.bind pc_add (fun q52 h52 => ?_)
    exact Pc.bind (pc_takeF X (C.cg h52.l.tk) T (h52.st Sc) fz) (fun q hq => Pc.ret ⟨h52.l.tr hq.1.l, hq.2.1⟩)
  · refine Pc.lt (fun c1 => Pc.eq (fun _ => lp) (fun _ => one)) (fun c1 => ?_)
    refine Pc.le (fun c2 => Pc.eq (fun _ => lp) (fun _ => one)) (fun c2 => ?_)
    refine Pc.bind pc_add (fun q46 h46 => ?_)
    exact Pc.bind (pc_takeF X (C.cg h46.l.tk) T (h46.st Sc) fz) (fun q hq => Pc.ret ⟨h46.l.tr hq.1.l, hq.2.1⟩)
theorem pc_sumLF {S : Nat → Hp → Int32 → Option Hp} {h : Hp} {n : Nat} {l1 l2 l3 : Int32} {f : Int} {t : Nat} (Sc : cS h f t) (fz : f ≠ 0) : Pc (W_X7_readSum S n 9 h l1 l2 l3) (fun q => q = h) := by
  have f0 := lit_0
  cases n with
  | zero => exact Pc.no
  | succ n =>
    rw [u_X7_readSum]
    refine Pc.pos rfl ?_
    refine Pc.lt (fun _ => Pc.ret rfl) (fun _ => ?_)
    exact Pc.eq (fun c => by have := Sc.1; exfalso; omega) (fun _ => Pc.ret rfl)
theorem smP.tr {u : Bool} {d t t1 t' : Nat} {f' : Int} (a : smP kd u d t 0 t1) (b : smP kd false d t1 f' t') : smP kd u d t f' t' := ⟨fun z => a.2 rfl _ (b.1 z), fun z r x => a.2 rfl _ (b.2 z r x)⟩
def loP (N : Nat) (kd : Nat → Int) (d t : Nat) (h q : Hp) : Prop := frL h q ∧ ∃ f' t', cS q f' t' ∧ tI2 N t' ∧ t ≤ t' ∧ smP kd false d t f' t' ∧ (f' = 0 → ¬ isOp (kd t'))
theorem pc_opStep (X : TX N kd pl vl) {S : Nat → Hp → Int32 → Option Hp} (L : lvP N kd pl vl S) {h : Hp} {n : Nat} {l1 x : Int32} {d t : Nat} (C : CT N kd pl vl h) (T : tI2 N t) (Sc : cS h 0 t) (hx : l1.toInt = (d : Int)) (d6 : d ≤ 6) (hk : x.toInt = kd t) (ho : isOp (kd t)) {K : Hp → Option Hp} {P : Hp → Prop} (kk : ∀ r f1 t1, frL h r → cS r f1 t1 → tI2 N t1 → t ≤ t1 → smP kd false d t f1 t1 → (f1 = 0 → t < t1) → Pc (K r) P) : Pc ((F_X7_take n h x).bind (fun q => ((F_X7_readUnit S n q.2 l1).bind K))) P := by
  refine Pc.bind (pc_take X C T Sc) (fun q hq => ?_)
  obtain ⟨k1, k2, -⟩ := hq
  have T' := tk_in X T (k := x.toInt) (f := 0) (by rw [hk]; unfold isOp at ho; omega)
  rw [hk] at k2 T'
  have tk : tkS kd (kd t) 0 t = if t < 400 then (0, t + 1) else (2, t) := by
    unfold tkS
    rw [if_pos rfl, if_pos rfl]
  rw [tk] at k2 T'
  by_cases c4 : t < 400
  · rw [if_pos c4] at k2 T'
    refine Pc.bind (pc_readUnit X L (d := d) (C.cg k1.tk) T' k2 hx d6) (fun r hr => ?_)
    obtain ⟨m1, f1, t1, m2, m3, m4, m5, m6⟩ := hr
    have m4' : t + 1 ≤ t1 := m4
    exact kk r f1 t1 (k1.l.tr m1) m2 m3 (by omega) ⟨fun z => (m5.1 z).op ho c4, fun z y a => (m5.2 z y a).op ho c4⟩ (fun _ => by omega)
  · rw [if_neg c4] at k2 T'
    have z2 : (2 : Int) ≠ 0 := by decide
    refine Pc.bind (pc_unitF X (C.cg k1.tk) T k2 z2) (fun r hr => ?_)
    exact kk r 2 t (k1.l.tr hr.1) hr.2 T (Nat.le_refl t) ⟨fun _ => ExR.opR ho c4, fun z => absurd z z2⟩ (fun z => absurd z z2)
set_option maxHeartbeats 4000000 in
theorem pc_sumL (X : TX N kd pl vl) {S : Nat → Hp → Int32 → Option Hp} (L : lvP N kd pl vl S) {l1 : Int32} {d : Nat} (hx : l1.toInt = (d : Int)) (d6 : d ≤ 6) : ∀ (n : Nat) (h : Hp) (l2 l3 : Int32) (t : Nat), CT N kd pl vl h → tI2 N t → cS h 0 t → 0 ≤ l3.toInt → l3.toInt < (t : Int) → Pc (W_X7_readSum S n 9 h l1 l2 l3) (loP N kd d t h) := by
  have f0 := lit_0
  have f1 := lit_1
  have f42 := lit_42
  have f43 := lit_43
  have f45 := lit_45
  have f47 := lit_47
  have f400 := lit_400
  intro n
  induction n with
  | zero => intro h l2 l3 t C T Sc a b; exact Pc.no
  | succ n ih =>
    intro h l2 l3 t C T Sc a b
    have T2 := T.2
    rw [u_X7_readSum]
    refine Pc.pos rfl ?_
    refine Pc.lt (fun c => by exfalso; omega) (fun c => ?_)
    refine Pc.eq (fun _ => ?_) (fun c => by have := Sc.1; exfalso; omega)
    have a1 := adT l3 1 (by omega) (by omega)
    unfold F_X7_kind
    refine Pc.bind (Q := fun q => q.2 = h ∧ q.1.toInt = kd t) (Pc.bind (pc_kindOf X C T Sc.2) (fun q hq => Pc.ret hq)) (fun q3 h3 => ?_)
    rw [h3.1]
    have v3 := h3.2
    -- what follows an order, from a state that stands at t
    have lo (g : Hp) (fg : frL h g) (y : Int32) (r : Hp) (f1 : Int) (t1 : Nat) (fr : frL g r) (s1 : cS r f1 t1) (i1 : tI2 N t1) (le : t ≤ t1) (sm : smP kd false d t f1 t1) (lt : f1 = 0 → t < t1) : Pc (W_X7_readSum S n 9 r l1 y (l3 + 1)) (loP N kd d t h) := by
      by_cases fz : f1 = 0
      · subst fz
        have lt' := lt rfl
        refine (ih r y (l3 + 1) t1 (C.cg (fg.tr fr).tk) i1 s1 (by omega) (by omega)).mono (fun q hq => ?_)
        obtain ⟨b1, f', t', b2, b3, b4, b5, b6⟩ := hq
        exact ⟨(fg.tr fr).tr b1, f', t', b2, b3, by omega, sm.tr b5, b6⟩
      · refine (pc_sumLF s1 fz).mono (fun q hq => ?_)
        rw [hq]
        exact ⟨fg.tr fr, f1, t1, s1, i1, le, sm, fun z => absurd z fz⟩
    have lo2 (o y : Int32) (r : Hp) (f1 : Int) (t1 : Nat) (fr : frL h r) (s1 : cS r f1 t1) (i1 : tI2 N t1) (le : t ≤ t1) (sm : smP kd false d t f1 t1) (lt : f1 = 0 → t < t1) : Pc ((F_X4_add n r 5 o).bind (fun q => W_X7_readSum S n 9 q l1 y (l3 + 1))) (loP N kd d t h) :=
      Pc.bind pc_add (fun q hq => lo h (frL.rf h) y q f1 t1 (fr.tr hq.l) (hq.st s1) i1 le sm lt)
    refine Pc.eq (fun c1 => ?_) (fun c1 => ?_)
    · refine pc_opStep X L C T Sc hx d6 v3 (by unfold isOp; omega) (fun r f1 t1 x1 x2 x3 x4 x5 x6 => ?_)
      exact Pc.eq (fun _ => lo2 _ _ r f1 t1 x1 x2 x3 x4 x5 x6) (fun _ => lo2 _ _ r f1 t1 x1 x2 x3 x4 x5 x6)
    · refine Pc.eq (fun c2 => ?_) (fun c2 => ?_)
      · refine pc_opStep X L C T Sc hx d6 v3 (by unfold isOp; omega) (fun r f1 t1 x1 x2 x3 x4 x5 x6 => ?_)
        exact Pc.eq (fun _ => lo2 _ _ r f1 t1 x1 x2 x3 x4 x5 x6) (fun _ => lo2 _ _ r f1 t1 x1 x2 x3 x4 x5 x6)
      · -- a sum that goes on with + or -, or ends
        have pm (g : Hp) (fg : frO h g) : Pc (if (q3.1 : Int32) = (43 : Int32) then ((F_X7_take n g q3.1).bind (fun q18 => ((F_X7_readUnit S n q18.2 l1).bind (fun q20 => W_X7_readSum S n 9 q20 l1 q3.1 (l3 + 1))))) else (if (q3.1 : Int32) = (45 : Int32) then ((F_X7_take n g q3.1).bind (fun q23 => ((F_X7_readUnit S n q23.2 l1).bind (fun q25 => W_X7_readSum S n 9 q25 l1 q3.1 (l3 + 1))))) else some g)) (loP N kd d t h) := by
          refine Pc.eq (fun c3 => ?_) (fun c3 => ?_)
          · exact pc_opStep X L (C.cg fg.l.tk) T (fg.st Sc) hx d6 v3 (by unfold isOp; omega) (fun r f1 t1 x1 x2 x3 x4 x5 x6 => lo g fg.l _ r f1 t1 x1 x2 x3 x4 x5 x6)
          · refine Pc.eq (fun c4 => ?_) (fun c4 => ?_)
            · exact pc_opStep X L (C.cg fg.l.tk) T (fg.st Sc) hx d6 v3 (by unfold isOp; omega) (fun r f1 t1 x1 x2 x3 x4 x5 x6 => lo g fg.l _ r f1 t1 x1 x2 x3 x4 x5 x6)
            · exact Pc.ret ⟨fg.l, 0, t, fg.st Sc, T, Nat.le_refl t, ⟨fun z => absurd rfl z, fun _ r x => x⟩, fun _ => by unfold isOp; omega⟩
        refine Pc.eq (fun c3 => pm h ⟨fun _ _ _ _ _ => rfl, fun _ _ => rfl⟩) (fun c3 => ?_)
        exact Pc.eq (fun c4 => Pc.bind pc_add (fun g hg => pm g hg)) (fun c4 => Pc.bind pc_add (fun g hg => pm g hg))
/-- a sum, at every level -/
theorem pc_levels (X : TX N kd pl vl) : ∀ l : Nat, lvP N kd pl vl (L_X7_readSum l) := by
  have f0 := lit_0
  intro l
  induction l with
  | zero => intro n h x d t C T Sc a b; exact Pc.no
  | succ l ih =>
    intro n h x d t C T Sc a b
    show Pc (F_X7_readSum (L_X7_readSum l) n h x) _
    unfold F_X7_readSum
    refine Pc.bind (pc_readUnit X ih (d := d) C T Sc a b) (fun q hq => ?_)
    obtain ⟨m1, f1, t1, m2, m3, m4, m5, m6⟩ := hq
    by_cases fz : f1 = 0
    · subst fz
      have lt := m6 rfl
      refine (pc_sumL X ih a b n q 0 0 t1 (C.cg m1.tk) m3 m2 (by omega) (by omega)).mono (fun r hr => ?_)
      obtain ⟨b1, f', t', b2, b3, b4, b5, b6⟩ := hr
      exact ⟨m1.tr b1, f', t', b2, b3, by omega, m5.tr b5, fun z => ⟨by omega, b6 z⟩⟩
    · refine (pc_sumLF m2 fz).mono (fun r hr => ?_)
      rw [hr]
      exact ⟨m1, f1, t1, m2, m3, m4, m5, fun z => absurd z fz⟩
theorem pc_sumF (X : TX N kd pl vl) {h : Hp} {n : Nat} {x : Int32} {f : Int} {t : Nat} (C : CT N kd pl vl h) (T : tI2 N t) (Sc : cS h f t) (fz : f ≠ 0) : Pc (F_X7_readSumT n h x) (fun q => frL h q ∧ cS q f t) := by
  unfold F_X7_readSumT
  show Pc (F_X7_readSum (L_X7_readSum 8) n h x) _
  unfold F_X7_readSum
  refine Pc.bind (pc_unitF X C T Sc fz) (fun q hq => ?_)
  refine (pc_sumLF hq.2 fz).mono (fun r hr => ?_)
  rw [hr]
  exact hq
/-- a whole sum: the fault and where, as the rules say -/
def sumR (kd : Nat → Int) (f : Int) (t : Nat) (f' : Int) (t' : Nat) : Prop := (f ≠ 0 → f' = f ∧ t' = t) ∧ (f = 0 → ExR kd true 0 t (f', t'))
theorem sumR.uniq {f f1 f2 : Int} {t t1 t2 : Nat} (a : sumR kd f t f1 t1) (b : sumR kd f t f2 t2) : f1 = f2 ∧ t1 = t2 := by
  by_cases fz : f = 0
  · have := (a.2 fz).uniq (b.2 fz)
    exact ⟨congrArg Prod.fst this, congrArg Prod.snd this⟩
  · have x := a.1 fz
    have y := b.1 fz
    exact ⟨x.1.trans y.1.symm, x.2.trans y.2.symm⟩
theorem pc_sum (X : TX N kd pl vl) {h : Hp} {n : Nat} {f : Int} {t : Nat} (C : CT N kd pl vl h) (T : tI2 N t) (Sc : cS h f t) : Pc (F_X7_readSumT n h 0) (fun q => frL h q ∧ ∃ f' t', cS q f' t' ∧ tI2 N t' ∧ sumR kd f t f' t') := by
  by_cases fz : f = 0
  · subst fz
    unfold F_X7_readSumT
    refine (pc_levels X 9 n h 0 0 t C T Sc lit_0 (by omega)).mono (fun q hq => ?_)
    obtain ⟨m1, f', t', m2, m3, m4, m5, m6⟩ := hq
    refine ⟨m1, f', t', m2, m3, fun z => absurd rfl z, fun _ => ?_⟩
    by_cases z : f' = 0
    · rw [z]
      rw [z] at m5
      exact m5.2 rfl _ (ExR.fin (m6 z).2)
    · exact m5.1 z
  · refine (pc_sumF X C T Sc fz).mono (fun q hq => ⟨hq.1, f, t, hq.2, T, fun _ => ⟨rfl, rfl⟩, fun z => absurd z fz⟩)
end SV
