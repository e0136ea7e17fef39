/-! SUMS: the reference's orders, as it goes on -/
section ER
variable {N : Nat} {kd pl vl : Nat → Int} {h h' : Hp} {t : Nat} {f : Int} {n : Nat}
def zR (q : Hp) : Prop := (hi q 226 13).toInt = 0
/-- where there is no fault behind, what was laid down -/
def exQ (kd vl pl : Nat → Int) (u : Bool) (W : List Int) (t c : Nat) (h q : Hp) : Prop := zR q → ∃ C t', rT pl q 0 t' ∧ ME kd vl u W t (C, t') ∧ ocP h q c C
theorem exQ.no {u : Bool} {W : List Int} {t t' c : Nat} {h q : Hp} {f : Int} (S : rT pl q f t') (fz : f ≠ 0) : exQ kd vl pl u W t c h q := fun z => by
  exfalso
  have := S.2.1
  unfold zR at z
  omega
theorem qr_unit (X : TX N kd pl vl) (R : RT N kd pl vl h) (T : tI2 N t) (S : rT pl h 0 t) {c : Nat} (o : (hi h 226 45).toInt = (c : Int)) {W : List Int} (ws : wtP h W) : Pc (F_X12_unit n h) (fun q => zR q → ∃ x : Int32, rT pl q 0 (t + 1) ∧ (∀ C t', ME kd vl false W (t + 1) (C, t') → ME kd vl true W t (x :: C, t')) ∧ ocP h q c [x] ∧ wtP q W ∧ t < 400) := by
  have f0 := lit_0
  have f1 := lit_1
  have l33 : (33 : Int32).toInt = 33 := by decide
  have l41 := lit_41
  have d30 : (30 : Int) ∈ vdL := by decide
  unfold F_X12_unit
  refine Pc.bind (pr_is X R T S 30 d30 (by decide)) (fun q1 h1 => ?_)
  rw [h1.1]
  have st := S.2.2.1 rfl
  have n1 := ncT (show 0 ≤ (hi h 226 11).toInt by omega)
  have n2 : Int32.toNatClampNeg (hi h 226 11) = t := by omega
  rw [n2]
  have rt := (R t T).1
  have rv := rk_var _ (vdT X T)
  have em (a b x : Int32) (ra : rcO x a b) (me : ∀ C t', ME kd vl false W (t + 1) (C, t') → ME kd vl true W t (x :: C, t')) : Pc ((F_X12_emit n h a b).bind (fun q16 => ((F_X12_goesOn n q16).bind (fun q18 => some q18)))) (fun q => zR q → ∃ x : Int32, rT pl q 0 (t + 1) ∧ (∀ C t', ME kd vl false W (t + 1) (C, t') → ME kd vl true W t (x :: C, t')) ∧ ocP h q c [x] ∧ wtP q W ∧ t < 400) := by
    refine Pc.bind (oc_emit o ra) (fun q16 h16 => ?_)
    obtain ⟨a1, a2, a3, a4⟩ := h16
    refine Pc.bind (pr_goesOn' (R.cg a2.e.rt) T (a2.st S)) (fun q hq => Pc.ret (fun z => ?_))
    have s1 := hq.2
    unfold gnS at s1
    by_cases c4 : t < 400
    · rw [if_pos c4] at s1
      exact ⟨x, s1, me, a1.kk hq.1, (ws.k a3 a4).q hq.1, c4⟩
    · rw [if_neg c4] at s1
      exfalso
      have y : (hi q 226 13).toInt = 2 := s1.2.1
      unfold zR at z
      omega
  have no (nu : ¬ isUn (kd t)) : Pc ((F_X12_fail n h 1).bind (fun q9 => some q9)) (fun q => zR q → ∃ x : Int32, rT pl q 0 (t + 1) ∧ (∀ C t', ME kd vl false W (t + 1) (C, t') → ME kd vl true W t (x :: C, t')) ∧ ocP h q c [x] ∧ wtP q W ∧ t < 400) := by
    refine Pc.bind (pr_fail R T S (by decide)) (fun q hq => Pc.ret (fun z => ?_))
    have y := hq.2
    rw [if_pos rfl, f1] at y
    exfalso
    have y1 := y.2.1
    unfold zR at z
    omega
  refine Pc.eq (fun cc => ?_) (fun cc => ?_)
  · have n30 : kd t ≠ 30 := fun z => h1.2.mpr ⟨rfl, z⟩ (cc.trans f0)
    refine Pc.eq (fun _ => ?_) (fun c2 => by have := S.2.1; exfalso; omega)
    refine Pc.chk (fun c3 => ?_)
    refine Pc.lt (fun c4 => no (by unfold isUn; omega)) (fun c4 => ?_)
    refine Pc.chk (fun _ => ?_)
    refine Pc.lt (fun c5 => no (by unfold isUn; omega)) (fun c5 => ?_)
    refine Pc.chk (fun _ => ?_)
    have kv := rv.mp (by omega)
    have rkv : rk (kd t) = 33 + kd t := by unfold rk; rw [if_pos (by omega)]
    have o1 := ofI (z := -1 - kd t) (by omega) (by omega)
    generalize esc : (hi h 229 t - 33 : Int32) = sc
    have sb := sbG esc rt l33 (by omega) (by omega)
    clear esc
    exact em 1 _ (Int32.ofInt (-1 - kd t)) (by unfold rcO; omega) (fun C t' a => a.var kv)
  · obtain ⟨-, e3⟩ := h1.2.mp (by omega)
    have tN : t < N := by
      have T1 := T.1
      by_cases y : t < N
      · exact y
      · exfalso
        have : t = N := by omega
        have x := X.2.1
        rw [← this] at x
        omega
    have vr := X.2.2.1 t tN e3
    have tv := (R t T).2.2 e3
    have o1 := ofI (z := vl t) (by omega) (by omega)
    refine Pc.chk (fun _ => em 0 _ (Int32.ofInt (vl t)) ?_ (fun C t' a => a.num e3))
    unfold rcO
    refine Or.inl ⟨f0, by omega, Int32.toInt_inj.mp (by omega)⟩
/-- an operator, its waiting ones come out, it waits -/
theorem qr_opG (X : TX N kd pl vl) (R : RT N kd pl vl h) (T : tI2 N t) (S : rT pl h 0 t) {c : Nat} (o : (hi h 226 45).toInt = (c : Int)) {W : List Int} (ws : wtP h W) {s1 l1 : Int32} (hs : stB (kd t) = true ↔ s1 ≠ 0) (hop : isOp (kd t)) {P : Hp → Prop} (kk : ∀ q, frE h q → rT pl q (gnS t).1 (gnS t).2 → hi q 226 12 = hi h 226 12 → ocP h q c (popW (stB (kd t)) W).1 → wtP q (kd t :: (popW (stB (kd t)) W).2) → Pc (W_X12_expression n 12 q l1 1) P) : Pc (opG n h s1 l1) P := by
  have f1 := lit_1
  unfold opG F_X12_comesOut
  refine Pc.bind (oc_pops hs W n h c ws o) (fun q hq => ?_)
  obtain ⟨q1, q2, q3, q4⟩ := hq
  refine Pc.chk (fun _ => Pc.chk (fun c6 => ?_))
  have w2 := q3.2.1
  have ix := ixO_lt c6
  have st := (q1.st S).2.2.1 rfl
  have n1 := ncT (show 0 ≤ (hi q 226 11).toInt by omega)
  have n1' : Int32.toNatClampNeg (hi q 226 11) = t := by omega
  have n9 := ncT (show 0 ≤ (hi q 226 49).toInt by omega)
  have n9' : Int32.toNatClampNeg (hi q 226 49) = (popW (stB (kd t)) W).2.length := by omega
  have a1 := adT (hi q 226 49) 1 (by omega) (by omega)
  have tv : (hi q 229 t).toInt = rk (kd t) := by
    rw [q1.1 229 t (by decide) (by decide) (by decide) (by omega)]
    exact (R t T).1
  rw [n1', n9']
  have e49 (v : Int32) : hi (wrI q 259 (popW (stB (kd t)) W).2.length v) 226 49 = hi q 226 49 := hiA rfl 226 49 (by decide)
  rw [e49]
  generalize eg : wrI (wrI q 259 (popW (stB (kd t)) W).2.length (hi q 229 t)) 226 49 (hi q 226 49 + 1) = g
  have rg (a k : Nat) (m : ¬ (a = 259 ∧ k = (popW (stB (kd t)) W).2.length)) (m2 : ¬ (a = 226 ∧ k = 49)) : hi g a k = hi q a k := by
    rw [← eg, hi_wrI, if_neg m2, hi_wrI, if_neg m]
  have fg : frN h g := by
    refine q1.tr ⟨fun a k n1 n2 n3 n4 => rg a k (by omega) (by omega), fun a k => ?_⟩
    rw [← eg, hl_wrI, hl_wrI]
  have wg : wtP g (kd t :: (popW (stB (kd t)) W).2) := by
    refine ⟨⟨?_, q3.1.cg (fun k hk => rg 259 k (by omega) (by omega))⟩, ?_, ?_⟩
    · rw [← eg, hi_wrI, if_neg (by omega), hi_wrI, if_pos ⟨rfl, rfl⟩]
      exact tv
    · rw [← eg, hiE rfl]
      have : ((kd t :: (popW (stB (kd t)) W).2).length : Int) = (popW (stB (kd t)) W).2.length + 1 := by simp
      omega
    · intro x hx
      rcases List.mem_cons.mp hx with z | z
      · rw [z]; exact Or.inr hop
      · exact q3.2.2 x z
  have og : ocP h g c (popW (stB (kd t)) W).1 := q2.k (rg 226 45 (by omega) (by decide)) (fun k => rg 257 k (by omega) (by omega)) (fun k => rg 258 k (by omega) (by omega))
  refine Pc.bind (pr_goesOn' (R.cg fg.e.rt) T (fg.st S)) (fun r hr => ?_)
  exact kk r (fg.e.tr hr.1.e) hr.2 (hr.1.op.trans fg.op) (og.kk hr.1) (wg.q hr.1)
theorem qr_mr (X : TX N kd pl vl) (R : RT N kd pl vl h) (T : tI2 N t) (S : rT pl h 0 t) {c : Nat} (o : (hi h 226 45).toInt = (c : Int)) {W : List Int} (ws : wtP h W) (od : (hi h 226 12).toInt = (n40 W : Int)) {l1 : Int32} (b0 : l1.toInt = 0) (kk : ∀ q, frE h q → rT pl q (gnS t).1 (gnS t).2 → hi q 226 12 = hi h 226 12 → isOp (kd t) → ocP h q c (popW (stB (kd t)) W).1 → wtP q (kd t :: (popW (stB (kd t)) W).2) → Pc (W_X12_expression n 12 q l1 1) (exQ kd vl pl false W t c h)) : Pc (mrT n h l1) (exQ kd vl pl false W t c h) := by
  have f0 := lit_0
  have f1 := lit_1
  have two (hop : isOp (kd t)) : Pc (opD n h l1) (exQ kd vl pl false W t c h) := by
    unfold opD
    have one (s : Int32) (hs : stB (kd t) = true ↔ s ≠ 0) : Pc (opG n h s l1) (exQ kd vl pl false W t c h) := qr_opG X R T S o ws hs hop (fun q x1 x2 x3 x4 x5 => kk q x1 x2 x3 hop x4 x5)
    have sT (z : kd t = 42 ∨ kd t = 47) : stB (kd t) = true ↔ (1 : Int32) ≠ 0 := ⟨fun _ => by decide, fun _ => by unfold stB; exact decide_eq_true z⟩
    refine Pc.bind (pr_is X R T S 42 (by decide) (by decide)) (fun q1 h1 => ?_)
    rw [h1.1]
    refine Pc.eq (fun c1 => ?_) (fun c1 => one 1 (sT (Or.inl (h1.2.mp (by omega)).2)))
    refine Pc.bind (pr_is X R T S 47 (by decide) (by decide)) (fun q2 h2 => ?_)
    rw [h2.1]
    refine Pc.eq (fun c2 => one 0 ⟨fun z => ?_, fun z => absurd rfl z⟩) (fun c2 => one 1 (sT (Or.inr (h2.2.mp (by omega)).2)))
    unfold stB at z
    rcases of_decide_eq_true z with y | y
    · exact absurd (c1.trans f0) (h1.2.mpr ⟨rfl, y⟩)
    · exact absurd (c2.trans f0) (h2.2.mpr ⟨rfl, y⟩)
  unfold mrT
  refine Pc.bind (pr_is X R T S 43 (by decide) (by decide)) (fun q1 h1 => ?_)
  rw [h1.1]
  refine Pc.eq (fun c1 => ?_) (fun c1 => Pc.neg (by decide) (two (by have := (h1.2.mp (by omega)).2; unfold isOp; omega)))
  refine Pc.bind (pr_is X R T S 45 (by decide) (by decide)) (fun q2 h2 => ?_)
  rw [h2.1]
  refine Pc.eq (fun c2 => ?_) (fun c2 => Pc.neg (by decide) (two (by have := (h2.2.mp (by omega)).2; unfold isOp; omega)))
  refine Pc.bind (pr_is X R T S 42 (by decide) (by decide)) (fun q3 h3 => ?_)
  rw [h3.1]
  refine Pc.eq (fun c3 => ?_) (fun c3 => Pc.neg (by decide) (two (by have := (h3.2.mp (by omega)).2; unfold isOp; omega)))
  refine Pc.bind (pr_is X R T S 47 (by decide) (by decide)) (fun q4 h4 => ?_)
  rw [h4.1]
  refine Pc.eq (fun c4 => ?_) (fun c4 => Pc.neg (by decide) (two (by have := (h4.2.mp (by omega)).2; unfold isOp; omega)))
  have no : ¬ isOp (kd t) := by
    intro z
    unfold isOp at z
    rcases z with z | z | z | z
    · exact h3.2.mpr ⟨rfl, z⟩ (c3.trans f0)
    · exact h1.2.mpr ⟨rfl, z⟩ (c1.trans f0)
    · exact h2.2.mpr ⟨rfl, z⟩ (c2.trans f0)
    · exact h4.2.mpr ⟨rfl, z⟩ (c4.trans f0)
  have s0 : (false = true ↔ (0 : Int32) ≠ 0) := ⟨fun z => Bool.noConfusion z, fun z => absurd rfl z⟩
  refine Pc.pos rfl ?_
  unfold F_X12_comesOut
  refine Pc.le (fun cc => ?_) (fun cc => ?_)
  · have dz : n40 W = 0 := by omega
    have pe := pop_e.mpr dz
    refine Pc.bind (oc_pops s0 W n h c ws o) (fun q hq => Pc.ret (fun _ => ?_))
    exact ⟨_, t, hq.1.st S, ME.fin no pe, hq.2.1⟩
  · refine Pc.bind (pr_fail R T S (by decide)) (fun q hq => ?_)
    have z := hq.2
    rw [if_pos rfl, f1] at z
    exact Pc.bind (pr_comesOut n q) (fun r hr => Pc.ret (exQ.no (hr.st z) (by decide)))
theorem exQ.pre {u u' : Bool} {W W' : List Int} {t1 c : Nat} {D : List Int32} {q : Hp} (a : ocP h h' c D) (m : ∀ C t', ME kd vl u' W' t1 (C, t') → ME kd vl u W t (D ++ C, t')) (b : exQ kd vl pl u' W' t1 (c + D.length) h' q) : exQ kd vl pl u W t c h q := fun z => by
  obtain ⟨C, t', b1, b2, b3⟩ := b z
  exact ⟨D ++ C, t', b1, m C t' b2, a.tr b3⟩
set_option maxHeartbeats 8000000 in
theorem qr_exL (X : TX N kd pl vl) {l1 : Int32} (b0 : l1.toInt = 0) : ∀ n : Nat, (∀ (h : Hp) (W : List Int) (t c : Nat), RT N kd pl vl h → tI2 N t → rT pl h 0 t → (hi h 226 12).toInt = (n40 W : Int) → n40 W ≤ 6 → wtP h W → (hi h 226 45).toInt = (c : Int) → Pc (W_X12_expression n 12 h l1 1) (exQ kd vl pl true W t c h)) ∧ (∀ (h : Hp) (l2 : Int32) (W : List Int) (t c : Nat), RT N kd pl vl h → tI2 N t → rT pl h 0 t → (hi h 226 12).toInt = (n40 W : Int) → n40 W ≤ 6 → wtP h W → (hi h 226 45).toInt = (c : Int) → Pc (W_X12_expression n 23 h l1 l2) (exQ kd vl pl true W t c h)) ∧ (∀ (h : Hp) (l2 : Int32) (W : List Int) (t c : Nat), RT N kd pl vl h → tI2 N t → rT pl h 0 t → (hi h 226 12).toInt = (n40 W : Int) → n40 W ≤ 6 → wtP h W → (hi h 226 45).toInt = (c : Int) → Pc (W_X12_expression n 96 h l1 l2) (exQ kd vl pl false W t c h)) := by
  have f0 := lit_0
  have f1 := lit_1
  have f2 := lit_2
  have f6 := lit_6'
  have z1 : (1 : Int) ≠ 0 := by decide
  have z2 : (2 : Int) ≠ 0 := by decide
  obtain ⟨r40, -, -, -, -⟩ := rk_vals
  have s0 : (false = true ↔ (0 : Int32) ≠ 0) := ⟨fun z => Bool.noConfusion z, fun z => absurd rfl z⟩
  intro n
  induction n with
  | zero => exact ⟨fun _ _ _ _ _ _ _ _ _ _ _ => Pc.no, fun _ _ _ _ _ _ _ _ _ _ _ _ => Pc.no, fun _ _ _ _ _ _ _ _ _ _ _ _ => Pc.no⟩
  | succ n ih =>
    obtain ⟨i12, i23, i96⟩ := ih
    refine ⟨fun h W t c R T S od d6 ws o => ?_, fun h l2 W t c R T S od d6 ws o => ?_, fun h l2 W t c R T S od d6 ws o => ?_⟩
    · rw [u_X12_expression]
      refine Pc.pos rfl ?_
      refine Pc.neg (by decide) ?_
      exact Pc.eq (fun _ => i23 h _ W t c R T S od d6 ws o) (fun c => by have := S.2.1; exfalso; omega)
    · rw [u_X12_expression]
      refine Pc.neg (by decide) (Pc.pos rfl ?_)
      refine Pc.bind (pr_is X R T S 40 (by decide) (by decide)) (fun q3 h3 => ?_)
      rw [h3.1]
      refine Pc.eq (fun cc => ?_) (fun cc => ?_)
      · refine Pc.bind (fun q e => And.intro (pr_unit X R T S q e) (qr_unit X R T S o ws q e)) (fun q hq => ?_)
        obtain ⟨⟨u1, u2, u3⟩, U⟩ := hq
        refine Pc.le (fun c5 => ?_) (fun c5 => Pc.ret (fun z => by exfalso; unfold zR at z; omega))
        have zq : zR q := by
          unfold zR
          rcases u3 with ⟨hu, s1⟩ | ⟨nu, s1⟩
          · have := s1.1; have := s1.2.1; omega
          · have := s1.2.1; omega
        obtain ⟨x, x1, x2, x3, x4, x5⟩ := U zq
        have T1 : tI2 N (t + 1) := by
          rcases u3 with ⟨hu, s1⟩ | ⟨nu, s1⟩
          · have := gn_in X T (by unfold isUn at hu; omega)
            unfold gnS at this
            rw [if_pos x5] at this
            exact this
          · exfalso; have := s1.2.1; unfold zR at zq; omega
        exact (i96 q l2 W (t + 1) (c + 1) (R.cg u1.rt) T1 x1 (by rw [u2]; exact od) d6 x4 x3.1).mono (fun r hr => exQ.pre x3 x2 hr)
      · have e4 : kd t = 40 := (h3.2.mp (by omega)).2
        refine Pc.eq (fun c6 => ?_) (fun c6 => ?_)
        · refine Pc.bind (pr_fail R T S (by decide)) (fun q13 h13 => ?_)
          have s13 := h13.2
          rw [if_pos rfl, f2] at s13
          generalize eg : wrI q13 226 12 _ = g
          have fg : frE q13 g := ⟨fun a k n1 n2 n3 n4 => by rw [← eg, hi_wrI, if_neg (by omega)], fun a k => by rw [← eg, hl_wrI]⟩
          have sg : rT pl g 2 t := by
            unfold rT
            rw [← eg, hi_wrI, if_neg (by decide), hi_wrI, if_neg (by decide), hi_wrI, if_neg (by decide)]
            exact s13
          have eg1 := h13.1.e.tr fg
          refine Pc.bind (pr_goesOnF (R.cg eg1.rt) T z2 sg) (fun q15 h15 => ?_)
          refine Pc.chk (fun _ => ?_)
          generalize ek : wrI (wrI q15 259 _ _) 226 49 _ = k
          have fk : frN q15 k := by
            refine ⟨fun a z n1 n2 n3 n4 => ?_, fun a z => ?_⟩
            · rw [← ek, hi_wrI, if_neg (by omega), hi_wrI, if_neg (by omega)]
            · rw [← ek, hl_wrI, hl_wrI]
          refine (pr_23F (fk.st h15.2) z2).mono (fun r hr => ?_)
          rw [hr]
          exact exQ.no (fk.st h15.2) z2
        · have a1 := adT (hi h 226 12) 1 (by omega) (by omega)
          generalize eg : wrI h 226 12 _ = g
          have rg (a k : Nat) (m : ¬ (a = 226 ∧ k = 12)) : hi g a k = hi h a k := by rw [← eg, hi_wrI, if_neg m]
          have fg : frE h g := ⟨fun a k n1 n2 n3 n4 => rg a k (by omega), fun a k => by rw [← eg, hl_wrI]⟩
          have og : hi g 226 12 = hi h 226 12 + 1 := hiE eg
          have sg : rT pl g 0 t := by
            unfold rT
            rw [← eg, hi_wrI, if_neg (by decide), hi_wrI, if_neg (by decide), hi_wrI, if_neg (by decide)]
            exact S
          have wsg : wtP g W := ws.k (rg 226 49 (by decide)) (fun k => rg 259 k (by omega))
          have ocg : ocP h g c [] := ocP.nil (by rw [rg 226 45 (by decide)]; exact o) (fun k _ => ⟨rg 257 k (by omega), rg 258 k (by omega)⟩)
          refine Pc.bind (pr_goesOn' (R.cg fg.rt) T sg) (fun q10 h10 => ?_)
          refine Pc.chk (fun c64 => ?_)
          have wq := wsg.q h10.1
          have oq := ocg.kk h10.1
          have ix := ixO_lt c64
          have w2 := wq.2.1
          have n9 := ncT (show 0 ≤ (hi q10 226 49).toInt by omega)
          have n9' : Int32.toNatClampNeg (hi q10 226 49) = W.length := by omega
          have a9 := adT (hi q10 226 49) 1 (by omega) (by omega)
          rw [n9']
          have e49 (v : Int32) : hi (wrI q10 259 W.length v) 226 49 = hi q10 226 49 := hiA rfl 226 49 (by decide)
          rw [e49]
          generalize ek : wrI (wrI q10 259 _ _) 226 49 _ = k
          have rk' (a z : Nat) (m : ¬ (a = 259 ∧ z = W.length)) (m2 : ¬ (a = 226 ∧ z = 49)) : hi k a z = hi q10 a z := by
            rw [← ek, hi_wrI, if_neg m2, hi_wrI, if_neg m]
          have fk : frN q10 k := by
            refine ⟨fun a z n1 n2 n3 n4 => rk' a z (by omega) (by omega), fun a z => ?_⟩
            rw [← ek, hl_wrI, hl_wrI]
          have wk : wtP k (40 :: W) := by
            refine ⟨⟨?_, wq.1.cg (fun z hz => rk' 259 z (by omega) (by omega))⟩, ?_, ?_⟩
            · rw [← ek, hi_wrI, if_neg (by omega), hi_wrI, if_pos ⟨rfl, rfl⟩]
              omega
            · rw [← ek, hiE rfl]
              have : (((40 : Int) :: W).length : Int) = W.length + 1 := by simp
              omega
            · intro x hx
              rcases List.mem_cons.mp hx with z | z
              · exact Or.inl z
              · exact wq.2.2 x z
          have ok : ocP h k c [] := oq.k (rk' 226 45 (by omega) (by decide)) (fun z => rk' 257 z (by omega) (by omega)) (fun z => rk' 258 z (by omega) (by omega))
          have fa := (fg.tr h10.1.e).tr fk.e
          have s1 := fk.st h10.2
          have T1 := gn_in X T (by omega)
          have n41 : n40 (40 :: W) = 1 + n40 W := by show (if (40 : Int) = 40 then 1 else 0) + n40 W = _; rw [if_pos rfl]
          unfold gnS at s1 T1
          by_cases c4 : t < 400
          · rw [if_pos c4] at s1 T1
            exact (i23 k l2 (40 :: W) (t + 1) c (R.cg fa.rt) T1 s1 (by rw [fk.op, h10.1.op, og]; omega) (by omega) wk ok.1).mono (fun r hr => exQ.pre ok (fun C t' a => a.lp e4) hr)
          · rw [if_neg c4] at s1 T1
            refine (pr_23F s1 z2).mono (fun r hr => ?_)
            rw [hr]
            exact exQ.no s1 z2
    · have kk : ∀ q, frE h q → rT pl q (gnS t).1 (gnS t).2 → hi q 226 12 = hi h 226 12 → isOp (kd t) → ocP h q c (popW (stB (kd t)) W).1 → wtP q (kd t :: (popW (stB (kd t)) W).2) → Pc (W_X12_expression n 12 q l1 1) (exQ kd vl pl false W t c h) := by
        intro q x1 x2 x3 hop x4 x5
        have T1 := gn_in X T (by unfold isOp at hop; omega)
        have nn : n40 (kd t :: (popW (stB (kd t)) W).2) = n40 W := by
          show (if kd t = 40 then 1 else 0) + n40 (popW (stB (kd t)) W).2 = _
          rw [if_neg (by unfold isOp at hop; omega), pop_n]; omega
        unfold gnS at x2 T1
        by_cases c4 : t < 400
        · rw [if_pos c4] at x2 T1
          exact (i12 q _ (t + 1) _ (R.cg x1.rt) T1 x2 (by rw [x3, nn]; exact od) (by rw [nn]; exact d6) x5 x4.1).mono (fun r hr => exQ.pre x4 (fun C t' a => a.op hop) hr)
        · rw [if_neg c4] at x2 T1
          refine (pr_12F x2 z2).mono (fun r hr => ?_)
          rw [hr]
          exact exQ.no x2 z2
      rw [u_X12_expression]
      refine Pc.neg (by decide) (Pc.neg (by decide) (Pc.pos rfl ?_))
      refine Pc.bind (pr_is X R T S 41 (by decide) (by decide)) (fun q18 h18 => ?_)
      rw [h18.1]
      refine Pc.eq (fun cc => ?_) (fun cc => ?_)
      · exact qr_mr X R T S o ws od b0 kk
      · have e1 : kd t = 41 := (h18.2.mp (by omega)).2
        refine Pc.le (fun c2 => qr_mr X R T S o ws od b0 kk) (fun c2 => ?_)
        unfold F_X12_comesOut
        have dn : n40 W ≠ 0 := by omega
        have pn : (popW false W).2 ≠ [] := fun z => dn (pop_e.mp z)
        refine Pc.bind (oc_pops s0 W n h c ws o) (fun q366 h366 => ?_)
        obtain ⟨p1, p2, p3, p4⟩ := h366
        have o3 := p1.op
        generalize e12' : (hi h 226 12 - 1 : Int32) = v12
        have s3 := sbG e12' od f1 (by omega) (by omega)
        have e12 (v : Int32) : hi (wrI q366 226 49 v) 226 12 = hi h 226 12 := by rw [hi_wrI, if_neg (by decide)]; exact o3
        rw [e12, e12']
        obtain ⟨V, pV⟩ : ∃ V, (popW false W).2 = 40 :: V := (pop_f (W := W)).resolve_left pn
        have w2 := p3.2.1
        rw [pV] at w2 p3
        have lV : (((40 : Int) :: V).length : Int) = V.length + 1 := by simp
        generalize e49' : (hi q366 226 49 - 1 : Int32) = v49
        have s9 := sbG e49' (w2.trans lV) f1 (by omega) (by have := rgT (hi q366 226 49); omega)
        generalize eg : wrI (wrI q366 226 49 _) 226 12 _ = g
        have rg (a k : Nat) (m : ¬ (a = 226 ∧ (k = 49 ∨ k = 12))) : hi g a k = hi q366 a k := by
          rw [← eg, hi_wrI, if_neg (by omega), hi_wrI, if_neg (by omega)]
        have fg : frE q366 g := ⟨fun a k n1 n2 n3 n4 => rg a k (by omega), fun a k => by rw [← eg, hl_wrI, hl_wrI]⟩
        have og : hi g 226 12 = v12 := hiE eg
        have S3 := p1.st S
        have sg : rT pl g 0 t := by
          unfold rT
          rw [rg 226 13 (by decide), rg 226 11 (by decide), rg 226 14 (by decide)]
          exact S3
        have wg : wtP g V := by
          refine ⟨p3.1.2.cg (fun k _ => rg 259 k (by omega)), ?_, fun x hx => p3.2.2 x (List.mem_cons_of_mem _ hx)⟩
          rw [← eg, hi_wrI, if_neg (by decide), hiE rfl]
          omega
        have okg : ocP h g c (popW false W).1 := p2.k (rg 226 45 (by decide)) (fun k => rg 257 k (by omega)) (fun k => rg 258 k (by omega))
        have nV : n40 W = 1 + n40 V := by
          have := pop_n (s := false) (W := W)
          rw [pV] at this
          rw [← this]
          show (if (40 : Int) = 40 then 1 else 0) + n40 V = _
          rw [if_pos rfl]
        have fa := p1.e.tr fg
        refine Pc.bind (pr_goesOn' (R.cg fa.rt) T sg) (fun q368 h368 => ?_)
        have s1 := h368.2
        have T1 := gn_in X T (by omega)
        unfold gnS at s1 T1
        by_cases c4 : t < 400
        · rw [if_pos c4] at s1 T1
          refine (i96 q368 l2 V (t + 1) _ (R.cg (fa.tr h368.1.e).rt) T1 s1 (by rw [h368.1.op, og]; omega) (by omega) (wg.q h368.1) (okg.kk h368.1).1).mono (fun r hr => exQ.pre (okg.kk h368.1) (fun C t' a => ?_) hr)
          exact ME.rp e1 pn (by rw [pV]; exact a)
        · rw [if_neg c4] at s1 T1
          exact (pr_96F s1 z2).mono (fun r hr => exQ.no hr.2 z2)
/-- a whole sum -/
theorem qr_sum (X : TX N kd pl vl) (R : RT N kd pl vl h) (T : tI2 N t) (S : rT pl h 0 t) (od : (hi h 226 12).toInt = 0) {c : Nat} (o : (hi h 226 45).toInt = (c : Int)) : Pc (F_X12_expression n h) (exQ kd vl pl true [] t c h) := by
  have f0 := lit_0
  unfold F_X12_expression
  generalize eg : wrI h 226 49 0 = g
  have rg (a k : Nat) (m : ¬ (a = 226 ∧ k = 49)) : hi g a k = hi h a k := by rw [← eg, hi_wrI, if_neg m]
  have fg : frN h g := ⟨fun a k n1 n2 n3 n4 => rg a k (by omega), fun a k => by rw [← eg, hl_wrI]⟩
  have e49 : hi g 226 49 = 0 := hiE eg
  refine ((qr_exL X (l1 := hi g 226 12) (by rw [fg.op]; exact od) n).1 g [] t c (R.cg fg.e.rt) T (fg.st S) (by rw [fg.op]; exact od) (by decide) ⟨trivial, by rw [e49]; exact f0, fun x hx => absurd hx List.not_mem_nil⟩ (by rw [rg 226 45 (by decide)]; exact o)).mono (fun q hq z => ?_)
  obtain ⟨C, t', a1, a2, a3⟩ := hq z
  exact ⟨C, t', a1, a2, a3.l (fun k => rg 257 k (by omega)) (fun k => rg 258 k (by omega))⟩
end ER
