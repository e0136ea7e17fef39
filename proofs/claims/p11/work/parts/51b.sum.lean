/-! SUMS: the orders that the class lays down -/
/-- how many orders there are -/
def osN (h : Hp) (s : Nat) : Prop := (hi h 5 3).toInt = (s : Int)
/-- orders have been laid down from s on -/
def oaP (h q : Hp) (s : Nat) (C : List Int32) : Prop := osN q (s + C.length) ∧ odA (hi q 6) s C ∧ (∀ k, k < s → hi q 6 k = hi h 6 k) ∧ ∀ k, hi q 7 k = hi h 7 k
theorem oaP.nil {h q : Hp} {s : Nat} (o : osN q s) (e : ∀ k, k < s → hi q 6 k = hi h 6 k) (e7 : ∀ k, hi q 7 k = hi h 7 k) : oaP h q s [] := ⟨o, trivial, e, e7⟩
theorem oaP.tr {h q r : Hp} {s : Nat} {C D : List Int32} (a : oaP h q s C) (b : oaP q r (s + C.length) D) : oaP h r s (C ++ D) := by
  refine ⟨?_, odA.app.mpr ⟨a.2.1.cg (fun k h1 h2 => b.2.2.1 k h2), b.2.1⟩, fun k hk => (b.2.2.1 k (by omega)).trans (a.2.2.1 k hk), fun k => (b.2.2.2 k).trans (a.2.2.2 k)⟩
  have := b.1
  rw [Nat.add_assoc, ← List.length_append] at this
  exact this
theorem oaP.k {h q r : Hp} {s : Nat} {C : List Int32} (a : oaP h q s C) (e3 : hi r 5 3 = hi q 5 3) (e6 : ∀ k, hi r 6 k = hi q 6 k) (e7 : ∀ k, hi r 7 k = hi q 7 k) : oaP h r s C := by
  refine ⟨?_, a.2.1.cg (fun k _ _ => e6 k), fun k hk => (e6 k).trans (a.2.2.1 k hk), fun k => (e7 k).trans (a.2.2.2 k)⟩
  unfold osN
  rw [e3]
  exact a.1
theorem oaP.l {h q r : Hp} {s : Nat} {C : List Int32} (a : oaP q r s C) (e6 : ∀ k, hi q 6 k = hi h 6 k) (e7 : ∀ k, hi q 7 k = hi h 7 k) : oaP h r s C := ⟨a.1, a.2.1, fun k hk => (a.2.2.1 k hk).trans (e6 k), fun k => (a.2.2.2 k).trans (e7 k)⟩
theorem frK.os {h q : Hp} (f : frK h q) {s : Nat} (o : osN h s) : osN q s := by
  unfold osN
  rw [f.1 5 3 (by decide)]
  exact o
theorem frK.o6 {h q : Hp} (f : frK h q) (k : Nat) : hi q 6 k = hi h 6 k := f.1 6 k (by omega)
theorem frK.o7 {h q : Hp} (f : frK h q) (k : Nat) : hi q 7 k = hi h 7 k := f.1 7 k (by omega)
theorem frK.o53 {h q : Hp} (f : frK h q) : hi q 5 3 = hi h 5 3 := f.1 5 3 (by decide)
theorem oa_add {n : Nat} {h : Hp} {x : Int32} {s : Nat} (o : osN h s) (s4 : s < 404) : Pc (F_X4_add n h 5 x) (fun q => oaP h q s [x] ∧ frO h q) := by
  have f4 := lit_404'
  have f1 := lit_1
  have o' : (hi h 5 3).toInt = (s : Int) := o
  have n3 := ncT (show 0 ≤ (hi h 5 3).toInt by omega)
  have n3' : Int32.toNatClampNeg (hi h 5 3) = s := by omega
  have a1 := adT (hi h 5 3) 1 (by omega) (by omega)
  refine fun q e => And.intro ?_ (pc_add q e)
  revert q e
  show Pc (F_X4_add n h 5 x) (fun q => oaP h q s [x])
  unfold F_X4_add
  rw [n3']
  refine Pc.le (fun c => by exfalso; omega) (fun _ => Pc.chk (fun _ => Pc.ret ?_))
  have e3 : hi (wrI h 6 s x) 5 3 = hi h 5 3 := hiA rfl 5 3 (by decide)
  refine ⟨?_, ?_, fun k hk => ?_, fun k => ?_⟩
  · show (hi (wrI (wrI h 6 s x) 5 3 (hi (wrI h 6 s x) 5 3 + 1)) 5 3).toInt = ((s + 1 : Nat) : Int)
    rw [hiE rfl, e3]
    omega
  · refine odA.one ?_
    rw [hi_wrI, if_neg (by omega), hi_wrI, if_pos ⟨rfl, rfl⟩]
  · rw [hi_wrI, if_neg (by omega), hi_wrI, if_neg (by omega)]
  · rw [hi_wrI, if_neg (by omega), hi_wrI, if_neg (by omega)]
def zF (q : Hp) : Prop := (hi q 2 5).toInt = 0
section SO
variable {N : Nat} {kd pl vl : Nat → Int}
/-- where there is no fault behind, what was laid down -/
def sumQ (kd vl : Nat → Int) (m : Nat) (w : Int) (d t s : Nat) (h q : Hp) : Prop := zF q → ∃ C t', cS q 0 t' ∧ RD kd vl m w d t C t' ∧ oaP h q s C ∧ s + C.length ≤ 3 + t' ∧ t' ≤ 400
theorem sumQ.no {m : Nat} {w : Int} {d t s t' : Nat} {h q : Hp} {f : Int} (S : cS q f t') (fz : f ≠ 0) : sumQ kd vl m w d t s h q := fun z => by
  exfalso
  have := S.1
  unfold zF at z
  omega
/-- the level below lays down as it should -/
def lvQ (N : Nat) (kd pl vl : Nat → Int) (S : Nat → Hp → Int32 → Option Hp) : Prop := ∀ (n : Nat) (h : Hp) (x : Int32) (d t s : Nat), CT N kd pl vl h → tI2 N t → cS h 0 t → x.toInt = (d : Int) → d ≤ 6 → osN h s → s ≤ 3 + t → Pc (S n h x) (sumQ kd vl 2 0 d t s h)
/-- a TOKEN taken behind a fault: the fault stays -/
theorem take_no (X : TX N kd pl vl) {h : Hp} {n : Nat} {x1 : Int32} {f : Int} {t : Nat} (C : CT N kd pl vl h) (T : tI2 N t) (S : cS h f t) (fz : f ≠ 0) : Pc (F_X7_take n h x1) (fun q => frK h q.2 ∧ cS q.2 f t ∧ q.1.toInt = 0) := pc_takeF X C T S fz
set_option maxHeartbeats 4000000 in
theorem qc_readUnit (X : TX N kd pl vl) {S : Nat → Hp → Int32 → Option Hp} (L : lvP N kd pl vl S) (L' : lvQ N kd pl vl S) {h : Hp} {n : Nat} {x1 : Int32} {w : Int} {d t s : Nat} (C : CT N kd pl vl h) (T : tI2 N t) (Sc : cS h 0 t) (hx : x1.toInt = (d : Int)) (d6 : d ≤ 6) (os : osN h s) (sl : s ≤ 3 + t) : Pc (F_X7_readUnit S n h x1) (sumQ kd vl 0 w d t s h) := by
  have f0 := lit_0
  have f1 := lit_1
  have f2 := lit_2
  have f6 := lit_6
  have f9 := lit_9
  have f30 := lit_30
  have f40 := lit_40
  have f41 := lit_41
  have m1 := lit_m1
  have T2 := T.2
  unfold F_X7_readUnit F_X7_kind
  refine Pc.bind (Q := fun q => q.2 = h ∧ q.1.toInt = kd t) (Pc.bind (pc_kindOf X C T Sc.2) (fun q hq => Pc.ret hq)) (fun q1 h1 => ?_)
  rw [h1.1]
  have v1 := h1.2
  -- one order, one TOKEN
  have un (c : Int32) (hu : isUn (kd t)) (rd : RD kd vl 0 w d t [c] (t + 1)) : Pc ((F_X4_add n h 5 c).bind (fun q52 => ((F_X7_take n q52 q1.1).bind (fun q54 => some q54.2)))) (sumQ kd vl 0 w d t s h) := by
    by_cases s4 : s < 404
    · refine Pc.bind (oa_add os s4) (fun q52 h52 => ?_)
      obtain ⟨a1, a2⟩ := h52
      refine Pc.bind (pc_take X (C.cg a2.l.tk) T (a2.st Sc)) (fun q hq => Pc.ret (fun z => ?_))
      obtain ⟨k1, k2, k3⟩ := hq
      have fz : (tkS kd q1.1.toInt 0 t).1 = 0 := by
        have := k2.1
        unfold zF at z
        omega
      obtain ⟨-, -, t4, e⟩ := tk_z fz
      rw [e] at k2
      exact ⟨[c], t + 1, k2, rd, a1.k k1.o53 k1.o6 k1.o7, by simp; omega, by omega⟩
    · -- no room: then it is the 401st TOKEN
      refine Pc.bind pc_add (fun q52 a2 => ?_)
      refine Pc.bind (pc_take X (C.cg a2.l.tk) T (a2.st Sc)) (fun q hq => Pc.ret (fun z => ?_))
      obtain ⟨k1, k2, k3⟩ := hq
      have fz : (tkS kd q1.1.toInt 0 t).1 = 0 := by
        have := k2.1
        unfold zF at z
        omega
      obtain ⟨-, -, t4, e⟩ := tk_z fz
      exfalso; omega
  have one (nu : ¬ isUn (kd t)) (n4 : kd t ≠ 40) : Pc ((F_X7_stop n h 1).bind (fun q => some q)) (sumQ kd vl 0 w d t s h) := by
    refine Pc.bind (pc_stop Sc) (fun q hq => Pc.ret ?_)
    have z := hq.2
    rw [if_pos rfl, f1] at z
    exact sumQ.no z (by decide)
  have lp (e4 : kd t = 40) : Pc (if (x1 : Int32) < (6 : Int32) then ((F_X7_take n h q1.1).bind (fun q7 => (if (q7.1 : Int32) = (0 : Int32) then some q7.2 else ((S n q7.2 (x1 + 1)).bind (fun q10 => ((F_X7_take n q10 41).bind (fun q12 => some q12.2))))))) else ((F_X7_stop n h 2).bind (fun q14 => ((F_X7_take n q14 q1.1).bind (fun q16 => (if (q16.1 : Int32) = (0 : Int32) then some q16.2 else ((S n q16.2 (x1 + 1)).bind (fun q19 => ((F_X7_take n q19 41).bind (fun q21 => some q21.2)))))))))) (sumQ kd vl 0 w d t s h) := by
    refine Pc.lt (fun c => ?_) (fun c => ?_)
    · refine Pc.bind (pc_take X C T Sc) (fun q7 h7 => ?_)
      obtain ⟨k1, k2, k3⟩ := h7
      have T7 := tk_in X T (k := q1.1.toInt) (f := 0) (by omega)
      rw [v1] at k2 k3 T7
      have tk : tkS kd (kd t) 0 t = if t < 400 then (0, t + 1) else (2, t) := by
        unfold tkS
        rw [if_pos rfl, if_pos rfl]
      rw [tk] at k2 k3 T7
      by_cases c4 : t < 400
      · rw [if_pos c4] at k2 k3 T7
        refine Pc.eq (fun c0 => absurd rfl (k3.mp (c0.trans f0))) (fun _ => ?_)
        have a1 := adT x1 1 (by omega) (by omega)
        refine Pc.bind (fun q e => And.intro (L n q7.2 (x1 + 1) (d + 1) (t + 1) (C.cg k1.tk) T7 k2 (by omega) (by omega) q e) (L' n q7.2 (x1 + 1) (d + 1) (t + 1) s (C.cg k1.tk) T7 k2 (by omega) (by omega) (k1.os os) (by omega) q e)) (fun q10 h10 => ?_)
        obtain ⟨⟨m1, f', t', m2, m3, m4, m5, m6⟩, L10⟩ := h10
        have C10 := C.cg (k1.l.tr m1).tk
        refine Pc.bind (pc_take X C10 m3 m2) (fun q12 h12 => Pc.ret (fun z => ?_))
        obtain ⟨j1, j2, j3⟩ := h12
        have fz : (tkS kd (41 : Int32).toInt f' t').1 = 0 := by
          have := j2.1
          unfold zF at z
          omega
        obtain ⟨f'0, e41, t4, e⟩ := tk_z fz
        rw [e] at j2
        rw [f41] at e41
        obtain ⟨D, t'', r1, r2, r3, r4, r5⟩ := L10 (by have := m2.1; unfold zF; omega)
        have tt : t'' = t' := by
          have x := r1.2
          have y := m2.2
          omega
        subst tt
        exact ⟨D, t'' + 1, j2, RD.par e4 (by omega) r2 e41, (r3.k j1.o53 j1.o6 j1.o7).l k1.o6 k1.o7, by omega, by omega⟩
      · rw [if_neg c4] at k2 k3 T7
        refine Pc.eq (fun _ => Pc.ret (sumQ.no k2 (show (2 : Int) ≠ 0 by decide))) (fun c0 => ?_)
        exfalso
        exact c0 ((k3.mpr (show (2 : Int) ≠ 0 by decide)).trans f0.symm)
    · refine Pc.bind (pc_stop Sc) (fun q14 h14 => ?_)
      have S14 := h14.2
      rw [if_pos rfl, f2] at S14
      refine Pc.bind (pc_take X (C.cg h14.1.tk) T S14) (fun q16 h16 => ?_)
      obtain ⟨k1, k2, k3⟩ := h16
      rw [tk_f (show (2 : Int) ≠ 0 by decide)] at k2 k3
      refine Pc.eq (fun _ => Pc.ret (sumQ.no k2 (show (2 : Int) ≠ 0 by decide))) (fun c0 => ?_)
      exfalso
      exact c0 ((k3.mpr (show (2 : Int) ≠ 0 by decide)).trans f0.symm)
  refine Pc.eq (fun c => ?_) (fun c => ?_)
  · have e30 : kd t = 30 := by omega
    have hu : isUn (kd t) := Or.inl e30
    have tN : t < N := by
      have T1 := T.1
      by_cases y : t < N
      · exact y
      · exfalso
        have : t = N := by omega
        have x := X.2.1
        rw [← this] at x
        omega
    refine Pc.bind (pc_valueOf C T Sc.2) (fun q50 h50 => ?_)
    rw [h50.1]
    have v5 := (h50.2 tN).2
    have vr := X.2.2.1 t tN e30
    have ec : q50.1.toInt32 = Int32.ofInt (vl t) := by
      refine Int32.toInt_inj.mp ?_
      rw [ofI (by omega) (by omega), Int64.toInt_toInt32, v5]
      exact bmT (by omega) (by omega)
    rw [ec]
    exact un _ hu (RD.num e30)
  · refine Pc.lt (fun c1 => ?_) (fun c1 => ?_)
    · have nu : ¬ isUn (kd t) := by unfold isUn; omega
      refine Pc.eq (fun c2 => lp (by omega)) (fun c2 => one nu (by omega))
    · refine Pc.le (fun c2 => ?_) (fun c2 => ?_)
      · have nu : ¬ isUn (kd t) := by unfold isUn; omega
        refine Pc.eq (fun c2 => lp (by omega)) (fun c2 => one nu (by omega))
      · have hv : 0 ≤ kd t ∧ kd t < 9 := by omega
        generalize esc : ((-1 : Int32) - q1.1) = sc
        have sb := sbG esc m1 v1 (by omega) (by omega)
        clear esc
        have o := ofI (z := -1 - kd t) (by omega) (by omega)
        have ec : sc = Int32.ofInt (-1 - kd t) := Int32.toInt_inj.mp (by rw [o]; omega)
        rw [ec]
        exact un _ (Or.inr hv) (RD.var hv)
end SO
