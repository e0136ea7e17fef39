/-! SUMS: the orders that the class lays down, one unit after another -/
section SP
variable {N : Nat} {kd pl vl : Nat → Int}
/-- behind a fault nothing is asked -/
theorem sumQ.bad {m : Nat} {w : Int} {d t s : Nat} {h q : Hp} (z : ¬ zF q) : sumQ kd vl m w d t s h q := fun y => absurd y z
theorem zF.no {h : Hp} {f : Int} {t : Nat} (S : cS h f t) (fz : f ≠ 0) : ¬ zF h := fun z => by
  have := S.1
  unfold zF at z
  omega
/-- what follows a unit: a fault, or a loop that goes on from there -/
theorem qc_sumLF {S : Nat → Hp → Int32 → Option Hp} {h g : Hp} {n : Nat} {l1 l2 l3 : Int32} {w : Int} {m d t s : Nat} (z : ¬ zF h) : Pc (W_X7_readSum S n 9 h l1 l2 l3) (sumQ kd vl m w d t s g) := by
  have f0 := lit_0
  cases n with
  | zero => exact Pc.no
  | succ n =>
    rw [u_X7_readSum]
    refine Pc.pos rfl ?_
    refine Pc.lt (fun _ => Pc.ret (sumQ.bad z)) (fun _ => ?_)
    exact Pc.eq (fun c => absurd (show zF h by unfold zF; omega) z) (fun _ => Pc.ret (sumQ.bad z))
/-- an operator is taken, a unit is read: what there is then -/
theorem qc_opStep (X : TX N kd pl vl) {S : Nat → Hp → Int32 → Option Hp} (L : lvP N kd pl vl S) (L' : lvQ N kd pl vl S) {h : Hp} {n : Nat} {l1 x : Int32} {d t s : Nat} (C : CT N kd pl vl h) (T : tI2 N t) (Sc : cS h 0 t) (hx : l1.toInt = (d : Int)) (d6 : d ≤ 6) (hk : x.toInt = kd t) (ho : isOp (kd t)) (os : osN h s) (sl : s ≤ 4 + t) {K : Hp → Option Hp} {P : Hp → Prop} (k0 : ∀ r, ¬ zF r → (∃ f1 t1, cS r f1 t1) → CT N kd pl vl r → Pc (K r) P) (kk : ∀ r D t1, cS r 0 t1 → CT N kd pl vl r → tI2 N t1 → t < t1 → RD kd vl 0 0 d (t + 1) D t1 → oaP h r s D → s + D.length ≤ 3 + t1 → Pc (K r) P) : Pc ((F_X7_take n h x).bind (fun q => ((F_X7_readUnit S n q.2 l1).bind K))) P := by
  refine Pc.bind (pc_take X C T Sc) (fun q hq => ?_)
  obtain ⟨k1, k2, -⟩ := hq
  have T' := tk_in X T (k := x.toInt) (f := 0) (by rw [hk]; unfold isOp at ho; omega)
  rw [hk] at k2 T'
  have tk : tkS kd (kd t) 0 t = if t < 400 then (0, t + 1) else (2, t) := by
    unfold tkS
    rw [if_pos rfl, if_pos rfl]
  rw [tk] at k2 T'
  by_cases c4 : t < 400
  · rw [if_pos c4] at k2 T'
    refine Pc.bind (fun r e => And.intro (pc_readUnit X L (d := d) (C.cg k1.tk) T' k2 hx d6 r e) (qc_readUnit X L L' (w := 0) (d := d) (C.cg k1.tk) T' k2 hx d6 (k1.os os) (by omega) r e)) (fun r hr => ?_)
    obtain ⟨⟨m1, f1, t1, m2, m3, m4, m5, m6⟩, M⟩ := hr
    have Cr := C.cg (k1.l.tr m1).tk
    by_cases z : zF r
    · obtain ⟨D, t2, r1, r2, r3, r4, r5⟩ := M z
      have z' : (hi r 2 5).toInt = 0 := z
      have f10 : f1 = 0 := by have := m2.1; omega
      have tt : t2 = t1 := by
        have x := r1.2
        have y := m2.2
        omega
      subst tt
      have m4' : t + 1 ≤ t2 := m4
      exact kk r D t2 r1 Cr m3 (by omega) r2 (r3.l k1.o6 k1.o7) r4
    · exact k0 r z ⟨f1, t1, m2⟩ Cr
  · rw [if_neg c4] at k2 T'
    have z2 : (2 : Int) ≠ 0 := by decide
    refine Pc.bind (pc_unitF X (C.cg k1.tk) T k2 z2) (fun r hr => ?_)
    exact k0 r (zF.no hr.2 z2) ⟨2, t, hr.2⟩ (C.cg (k1.l.tr hr.1).tk)
/-- one order more, if there is no fault -/
theorem qc_add {h r : Hp} {n s : Nat} {c : Int32} {D : List Int32} {t1 : Nat} (o : oaP h r s D) (s4 : s + D.length < 404) (S : cS r 0 t1) {K : Hp → Option Hp} {P : Hp → Prop} (kk : ∀ q, frO r q → cS q 0 t1 → oaP h q s (D ++ [c]) → Pc (K q) P) : Pc ((F_X4_add n r 5 c).bind K) P := by
  refine Pc.bind (oa_add o.1 s4) (fun q hq => ?_)
  exact kk q hq.2 (hq.2.st S) (o.tr hq.1)
theorem qc_add0 {r : Hp} {n : Nat} {c : Int32} {f1 : Int} {t1 : Nat} (S : cS r f1 t1) (z : ¬ zF r) {K : Hp → Option Hp} {P : Hp → Prop} (kk : ∀ q, ¬ zF q → Pc (K q) P) : Pc ((F_X4_add n r 5 c).bind K) P := by
  refine Pc.bind pc_add (fun q hq => kk q (fun y => z ?_))
  have a := (hq.st S).1
  have b := S.1
  unfold zF at y ⊢
  omega
set_option maxHeartbeats 8000000 in
theorem qc_sumL (X : TX N kd pl vl) {S : Nat → Hp → Int32 → Option Hp} (L : lvP N kd pl vl S) (L' : lvQ N kd pl vl S) {l1 : Int32} {d : Nat} (hx : l1.toInt = (d : Int)) (d6 : d ≤ 6) : ∀ (n : Nat) (h : Hp) (l2 l3 : Int32) (t s : Nat), CT N kd pl vl h → tI2 N t → cS h 0 t → 0 ≤ l3.toInt → l3.toInt < (t : Int) → (l2.toInt = 0 ∨ l2.toInt = 43 ∨ l2.toInt = 45) → osN h s → s + (wl l2.toInt).length ≤ 3 + t → Pc (W_X7_readSum S n 9 h l1 l2 l3) (sumQ kd vl 1 l2.toInt d t s h) := by
  have f0 := lit_0
  have f1 := lit_1
  have f42 := lit_42
  have f43 := lit_43
  have f45 := lit_45
  have f47 := lit_47
  have f400 := lit_400
  intro n
  induction n with
  | zero => intro h l2 l3 t s C T Sc a b w os sl; exact Pc.no
  | succ n ih =>
    intro h l2 l3 t s C T Sc a b w os sl
    have T2 := T.2
    have T1 := T.1
    have wl0 : (wl (0 : Int)).length = 0 := rfl
    have wl1 {z : Int} (hz : z ≠ 0) : wl z = [opc z] := if_neg hz
    have wlc {z : Int} (hz : z ≠ 0) : (wl z).length = 1 := by rw [wl1 hz]; rfl
    have wle : (wl l2.toInt).length ≤ 1 := by
      by_cases z : l2.toInt = 0
      · rw [z]; exact Nat.zero_le 1
      · rw [wlc z]; exact Nat.le_refl 1
    rw [u_X7_readSum]
    refine Pc.pos rfl ?_
    refine Pc.lt (fun c => by exfalso; omega) (fun c => ?_)
    refine Pc.eq (fun _ => ?_) (fun c => by have := Sc.1; exfalso; omega)
    have a1 := adT l3 1 (by omega) (by omega)
    unfold F_X7_kind
    refine Pc.bind (Q := fun q => q.2 = h ∧ q.1.toInt = kd t) (Pc.bind (pc_kindOf X C T Sc.2) (fun q hq => Pc.ret hq)) (fun q3 h3 => ?_)
    rw [h3.1]
    have v3 := h3.2
    -- a strong one
    have str (o : Int32) (hs : kd t = 42 ∨ kd t = 47) (ho : o = opc (kd t)) (r : Hp) (D : List Int32) (t1 : Nat) (x1 : cS r 0 t1) (x2 : CT N kd pl vl r) (x3 : tI2 N t1) (x4 : t < t1) (x5 : RD kd vl 0 0 d (t + 1) D t1) (x6 : oaP h r s D) : Pc ((F_X4_add n r 5 o).bind (fun q => W_X7_readSum S n 9 q l1 l2 (l3 + 1))) (sumQ kd vl 1 l2.toInt d t s h) := by
      have x32 := x3.2
      have x8 := x5.len.1 rfl
      refine qc_add x6 (by omega) x1 (fun q y1 y2 y3 => ?_)
      have ll : (D ++ [o]).length = D.length + 1 := by simp
      have y4 : osN q (s + (D ++ [o]).length) := y3.1
      refine (ih q l2 (l3 + 1) t1 (s + (D ++ [o]).length) (x2.cg y1.l.tk) x3 y2 (by omega) (by omega) w y4 (by omega)).mono (fun u hu z => ?_)
      obtain ⟨E, t2, e1, e2, e3, e4, e5⟩ := hu z
      refine ⟨D ++ opc (kd t) :: E, t2, e1, RD.str hs x5 e2, ?_, ?_, e5⟩
      · have := y3.tr e3
        rw [ho] at this
        simpa using this
      · have : (D ++ opc (kd t) :: E).length = D.length + 1 + E.length := by simp; omega
        omega
    have str0 (o : Int32) (r : Hp) (z : ¬ zF r) (e : ∃ f1 t1, cS r f1 t1) : Pc ((F_X4_add n r 5 o).bind (fun q => W_X7_readSum S n 9 q l1 l2 (l3 + 1))) (sumQ kd vl 1 l2.toInt d t s h) := by
      obtain ⟨f1, t1, e⟩ := e
      exact qc_add0 e z (fun q y => qc_sumLF y)
    have u42 : kd t = 42 → ((-12 : Int32) = opc (kd t)) := fun z => by rw [z]; rfl
    have u47 : kd t = 47 → ((-13 : Int32) = opc (kd t)) := fun z => by rw [z]; rfl
    refine Pc.eq (fun c1 => ?_) (fun c1 => ?_)
    · have k42 : kd t = 42 := by omega
      refine qc_opStep X L L' C T Sc hx d6 v3 (by unfold isOp; omega) os (by omega) (fun r z e _ => ?_) (fun r D t1 x1 x2 x3 x4 x5 x6 x7 => ?_)
      · exact Pc.eq (fun _ => str0 _ r z e) (fun _ => str0 _ r z e)
      · exact Pc.eq (fun _ => str _ (Or.inl k42) (u42 k42) r D t1 x1 x2 x3 x4 x5 x6) (fun q => by exfalso; omega)
    · refine Pc.eq (fun c2 => ?_) (fun c2 => ?_)
      · have k47 : kd t = 47 := by omega
        refine qc_opStep X L L' C T Sc hx d6 v3 (by unfold isOp; omega) os (by omega) (fun r z e _ => ?_) (fun r D t1 x1 x2 x3 x4 x5 x6 x7 => ?_)
        · exact Pc.eq (fun _ => str0 _ r z e) (fun _ => str0 _ r z e)
        · exact Pc.eq (fun q => by exfalso; omega) (fun _ => str _ (Or.inr k47) (u47 k47) r D t1 x1 x2 x3 x4 x5 x6)
      · -- + or -, or the end
        have weak (g : Hp) (fg : frO h g) (og : oaP h g s (wl l2.toInt)) (hw : kd t = 43 ∨ kd t = 45) : Pc ((F_X7_take n g q3.1).bind (fun q18 => ((F_X7_readUnit S n q18.2 l1).bind (fun q20 => W_X7_readSum S n 9 q20 l1 q3.1 (l3 + 1))))) (sumQ kd vl 1 l2.toInt d t s h) := by
          have os' : osN g (s + (wl l2.toInt).length) := og.1
          refine qc_opStep X L L' (C.cg fg.l.tk) T (fg.st Sc) hx d6 v3 (by unfold isOp; omega) os' (by omega) (fun r z e _ => qc_sumLF z) (fun r D t1 x1 x2 x3 x4 x5 x6 x7 => ?_)
          have x62 : osN r (s + (wl l2.toInt).length + D.length) := x6.1
          have w1 : (wl q3.1.toInt).length = 1 := wlc (by omega)
          have x8 := x5.len.1 rfl
          refine (ih r q3.1 (l3 + 1) t1 _ x2 x3 x1 (by omega) (by omega) (by omega) x62 (by omega)).mono (fun u hu z => ?_)
          obtain ⟨E, t2, e1, e2, e3, e4, e5⟩ := hu z
          refine ⟨wl l2.toInt ++ (D ++ E), t2, e1, RD.weak hw x5 (by rw [← v3]; exact e2), og.tr (x6.tr e3), ?_, e5⟩
          have : (wl l2.toInt ++ (D ++ E)).length = (wl l2.toInt).length + D.length + E.length := by simp; omega
          omega
        have pm (g : Hp) (fg : frO h g) (og : oaP h g s (wl l2.toInt)) : Pc (if (q3.1 : Int32) = (43 : Int32) then ((F_X7_take n g q3.1).bind (fun q18 => ((F_X7_readUnit S n q18.2 l1).bind (fun q20 => W_X7_readSum S n 9 q20 l1 q3.1 (l3 + 1))))) else (if (q3.1 : Int32) = (45 : Int32) then ((F_X7_take n g q3.1).bind (fun q23 => ((F_X7_readUnit S n q23.2 l1).bind (fun q25 => W_X7_readSum S n 9 q25 l1 q3.1 (l3 + 1))))) else some g)) (sumQ kd vl 1 l2.toInt d t s h) := by
          refine Pc.eq (fun c3 => weak g fg og (by omega)) (fun c3 => ?_)
          refine Pc.eq (fun c4 => weak g fg og (by omega)) (fun c4 => Pc.ret (fun z => ?_))
          exact ⟨wl l2.toInt, t, fg.st Sc, RD.fin (by unfold isOp; omega), og, sl, T2⟩
        have hm : oaP h h s [] := oaP.nil os (fun _ _ => rfl) (fun _ => rfl)
        refine Pc.eq (fun c3 => pm h ⟨fun _ _ _ _ _ => rfl, fun _ _ => rfl⟩ (by rw [show l2.toInt = 0 by omega]; exact hm)) (fun c3 => ?_)
        have nz : l2.toInt ≠ 0 := by omega
        rw [wlc nz] at sl
        refine Pc.eq (fun c4 => ?_) (fun c4 => ?_)
        · refine qc_add hm (by simp; omega) Sc (fun g y1 y2 y3 => pm g y1 ?_)
          rw [wl1 nz, show opc l2.toInt = -10 by rw [show l2.toInt = 43 by omega]; rfl]
          exact y3
        · refine qc_add hm (by simp; omega) Sc (fun g y1 y2 y3 => pm g y1 ?_)
          rw [wl1 nz, show opc l2.toInt = -11 by rw [show l2.toInt = 45 by omega]; rfl]
          exact y3
/-- a sum, at every level -/
theorem qc_levels (X : TX N kd pl vl) : ∀ l : Nat, lvQ N kd pl vl (L_X7_readSum l) := by
  have f0 := lit_0
  intro l
  induction l with
  | zero => intro n h x d t s C T Sc a b os sl; exact Pc.no
  | succ l ih =>
    intro n h x d t s C T Sc a b os sl
    have T2 := T.2
    show Pc (F_X7_readSum (L_X7_readSum l) n h x) _
    unfold F_X7_readSum
    refine Pc.bind (fun r e => And.intro (pc_readUnit X (pc_levels X l) (d := d) C T Sc a b r e) (qc_readUnit X (pc_levels X l) ih (w := 0) (d := d) C T Sc a b os sl r e)) (fun q hq => ?_)
    obtain ⟨⟨m1, f1, t1, m2, m3, m4, m5, m6⟩, M⟩ := hq
    by_cases z : zF q
    · obtain ⟨D, t2, r1, r2, r3, r4, r5⟩ := M z
      have z' : (hi q 2 5).toInt = 0 := z
      have f10 : f1 = 0 := by have := m2.1; omega
      have tt : t2 = t1 := by
        have x := r1.2
        have y := m2.2
        omega
      subst tt
      have lt := m6 f10
      have os' : osN q (s + D.length) := r3.1
      have w0 : (wl (0 : Int32).toInt).length = 0 := by rw [f0]; rfl
      refine (qc_sumL X (pc_levels X l) ih a b n q 0 0 t2 (s + D.length) (C.cg m1.tk) m3 r1 (by omega) (by omega) (Or.inl f0) os' (by omega)).mono (fun r hr z => ?_)
      obtain ⟨E, t3, e1, e2, e3, e4, e5⟩ := hr z
      rw [f0] at e2
      refine ⟨D ++ E, t3, e1, RD.sum r2 e2, r3.tr e3, ?_, e5⟩
      have : (D ++ E).length = D.length + E.length := by simp
      omega
    · exact qc_sumLF z
/-- a whole sum -/
theorem qc_sum (X : TX N kd pl vl) {h : Hp} {n : Nat} {t s : Nat} (C : CT N kd pl vl h) (T : tI2 N t) (Sc : cS h 0 t) (os : osN h s) (sl : s ≤ 3 + t) : Pc (F_X7_readSumT n h 0) (sumQ kd vl 2 0 0 t s h) := by
  unfold F_X7_readSumT
  exact qc_levels X 9 n h 0 0 t s C T Sc lit_0 (by omega) os sl
end SP
