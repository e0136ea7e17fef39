/-! A STATEMENT, of both -/
section JT
variable {N : Nat} {kd pl vl nm : Nat → Int} {s : Nat} {hc hc' hr hr' h : Hp} {st : Int × Nat × Int × Int} {n m : Nat}
theorem ExR.le : ∀ (k : Nat) (u : Bool) (d t : Nat) (r : Int × Nat), esF kd k u d t = some r → t ≤ r.2 := by
  intro k
  induction k with
  | zero => intro u d t r e; cases e
  | succ k ih =>
    intro u d t r e
    unfold esF at e
    have fin (x : Int) (e : some (x, t) = some r) : t ≤ r.2 := by
      have := Option.some.inj e
      rw [← this]
      exact Nat.le_refl t
    have go (u : Bool) (d : Nat) (e : esF kd k u d (t + 1) = some r) : t ≤ r.2 := by
      have := ih u d (t + 1) r e
      omega
    split at e
    · split at e
      · split at e
        · exact go _ _ e
        · exact fin _ e
      · split at e
        · split at e
          · split at e
            · exact go _ _ e
            · exact fin _ e
          · exact fin _ e
        · exact fin _ e
    · split at e
      · split at e
        · exact go _ _ e
        · exact fin _ e
      · split at e
        · exact fin _ e
        · split at e
          · split at e
            · exact go _ _ e
            · exact fin _ e
          · exact fin _ e
theorem sumR.le {f f' : Int} {t t' : Nat} (a : sumR kd f t f' t') : t ≤ t' := by
  by_cases fz : f = 0
  · obtain ⟨k, e⟩ := a.2 fz
    exact ExR.le k _ _ _ _ e
  · rw [(a.1 fz).2]
    exact Nat.le_refl t
theorem lwF.le : ∀ (k i : Nat) (f : Int) (t : Nat) (f' : Int) (t' : Nat), lwF kd k i f t f' t' → t ≤ t' := by
  intro k
  induction k with
  | zero => intro i f t f' t' a; exact False.elim a
  | succ k ih =>
    intro i f t f' t' a
    rcases a with ⟨-, -, a3⟩ | ⟨-, -, a3⟩ | ⟨-, -, -, -, a5⟩ | ⟨-, -, -, x1, y1, x2, y2, x3, y3, s1, s2, s3, s4⟩
    · rw [a3]; exact Nat.le_refl t
    · exact a3.le
    · rw [a5]; exact Nat.le_refl t
    · have q0 := tk_le (kd := kd) (t := t) (k := 19) (f := 0)
      have q1 := s1.le
      have q2 := tk_le (kd := kd) (t := y1) (k := 60) (f := x1)
      have q3 := s2.le
      have q4 := tk_le (kd := kd) (t := y2) (k := 20) (f := x2)
      have q5 := s3.le
      have q6 := tk_le (kd := kd) (t := y3) (k := 21) (f := x3)
      have q7 := ih _ _ _ _ _ s4
      omega
theorem pl_le (X : TX N kd pl vl) {t t' : Nat} (T' : tI2 N t') (h : t ≤ t') : pl t ≤ pl t' := by
  by_cases z : t = t'
  · rw [z]; exact Int.le_refl _
  · have := pl_lt X T' (show t < t' by omega)
    omega
def laE (kd : Nat → Int) (f1 : Int) (t1 : Nat) (st : Int × Nat × Int × Int) : Int × Nat × Int × Int := ((tkS kd 59 f1 t1).1, (tkS kd 59 f1 t1).2, st.2.2)
/-- a law: the class -/
theorem cq_law (X : TX N kd pl vl) (C : CT N kd pl vl hc) (T : tI2 N st.2.1) (S : cQ hc st) {x1 x2 : Int32} (k : Int) (hx : x1.toInt = k) (k2 : k ≠ 32) : Pc ((F_X7_take n hc x1).bind (fun q26 => ((F_X7_readLaw n q26.2 x2).bind (fun q28 => ((F_X7_take n q28 59).bind (fun q30 => some q30.2)))))) (fun q => tkK hc q ∧ fC hc q ∧ ∃ f1 t1 i, lwF kd i 0 (tkS kd 61 (tkQ kd k st).1 (tkQ kd k st).2.1).1 (tkS kd 61 (tkQ kd k st).1 (tkQ kd k st).2.1).2 f1 t1 ∧ cQ q (laE kd f1 t1 st) ∧ tI2 N t1) := by
  refine Pc.bind (cq_take X C T S k hx) (fun q1 h1 => ?_)
  have T1 := tq_in X T (k := k) k2
  refine Pc.bind (pc_law X (C.cg h1.1.tk) T1 h1.2.1.1) (fun q2 h2 => ?_)
  obtain ⟨m1, f1, t1, i, m2, m3, m4⟩ := h2
  have tk2 := h1.1.tk.tr m1.tk
  have c2 : cQ q2 (f1, t1, st.2.2) := by
    refine ⟨m2, fun z => ?_⟩
    rw [m1.1 2 6 (by decide) (by decide) (by decide) (by decide), m1.1 2 7 (by decide) (by decide) (by decide) (by decide), h1.1.1 2 6 (by decide), h1.1.1 2 7 (by decide)]
    refine S.2 ?_
    -- no fault behind the law: none ahead of it
    by_cases w : st.1 = 0
    · exact w
    · exfalso
      have e1 : tkQ kd k st = st := tq_f w
      rw [e1, tk_f w] at m4
      cases i with
      | zero => exact m4
      | succ i =>
        rcases m4 with ⟨-, y, -⟩ | ⟨y, -⟩ | ⟨y, -⟩ | ⟨y, -⟩
        · exact w (y.symm.trans z)
        · exact w y
        · exact w y
        · exact w y
  have m3' : tI2 N ((f1, t1, st.2.2) : Int × Nat × Int × Int).2.1 := m3
  refine Pc.bind (cq_take X (C.cg tk2) m3' c2 59 lit_59) (fun q3 h3 => Pc.ret ⟨tk2.tr h3.1.tk, (h1.1.c.tr m1.c).tr h3.1.c, f1, t1, i, m4, h3.2.1, m3⟩)
theorem frG.r0 {h h' : Hp} (a : frG h h') : (∀ x k, ((235 ≤ x ∧ x ≤ 247) ∨ (x = 226 ∧ k = 20)) → hi h' x k = hi h x k) ∧ ∀ k, hl h' 234 k = hl h 234 k := ⟨fun x k n => a.1 x k (by omega) (by omega), fun k => a.2 234 k⟩
/-- a law: the reference -/
theorem rq_law (X : TX N kd pl vl) (R : RT N kd pl vl hr) (T : tI2 N st.2.1) (S : rQ pl hr st) (fz : st.1 = 0) (od : (hi hr 226 12).toInt = 0) {x2 : Int32} (k : Int) (hk : kd st.2.1 = k) (k2 : k ≠ 32) : Pc ((F_X12_goesOn n hr).bind (fun q47 => ((F_X12_tellLaw n q47 x2).bind (fun q49 => some q49)))) (fun q => frG hr q ∧ ∃ f1 t1 i, lwF kd i 0 (tkS kd 61 (tkQ kd k st).1 (tkQ kd k st).2.1).1 (tkS kd 61 (tkQ kd k st).1 (tkQ kd k st).2.1).2 f1 t1 ∧ rQ pl q (laE kd f1 t1 st) ∧ tI2 N (laE kd f1 t1 st).2.1 ∧ ((laE kd f1 t1 st).1 = 0 → (hi q 226 12).toInt = 0)) := by
  refine Pc.bind (rq_goesOn X R T S fz k hk k2) (fun q1 h1 => ?_)
  have T1 := tq_in X T (k := k) k2
  refine Pc.bind (pr_law X (R.cg h1.1.rt) T1 h1.2.1 (fun _ => by rw [h1.1.op]; exact od)) (fun q2 h2 => Pc.ret ?_)
  obtain ⟨m1, f1, t1, i, m2, m3, m4, m5⟩ := h2
  have fa := h1.1.g.tr m1
  refine ⟨fa, f1, t1, i, m2, ⟨m3, fun z => ?_⟩, m4, m5⟩
  have a := S.2 fz
  rw [fa.1 226 15 (by omega) (by decide), fa.1 226 16 (by omega) (by decide)]
  refine ⟨a.1, fun w => ⟨(a.2 w).1, ?_⟩⟩
  have le1 : st.2.1 ≤ (tkQ kd k st).2.1 := tk_le
  have le2 := tk_le (kd := kd) (t := (tkQ kd k st).2.1) (k := 61) (f := (tkQ kd k st).1)
  have le3 := lwF.le _ _ _ _ _ _ m2
  have le4 := tk_le (kd := kd) (t := t1) (k := 59) (f := f1)
  have p : pl st.2.1 ≤ pl (laE kd f1 t1 st).2.1 := pl_le X m4 (show st.2.1 ≤ (laE kd f1 t1 st).2.1 by show st.2.1 ≤ (tkS kd 59 f1 t1).2; omega)
  have := (a.2 w).2
  show st.2.2.2 < pl (laE kd f1 t1 st).2.1
  omega
theorem JZ.cg' {w w' : Int} (j : JZ N kd vl nm s w hc hr) (a : fC hc hc') (b : (∀ x k, ((235 ≤ x ∧ x ≤ 247) ∨ (x = 226 ∧ k = 20)) → hi hr' x k = hi hr x k) ∧ ∀ k, hl hr' 234 k = hl hr 234 k) (o : (hi hr' 226 12).toInt = 0) (ww : w' = 0 → w = 0) : JZ N kd vl nm s w' hc' hr' := by
  have fr : fR hr (wrI hr' 226 12 (hi hr 226 12)) := by
    refine ⟨fun x k n => ?_, fun k => b.2 k⟩
    rw [hi_wrI]
    by_cases q : x = 226 ∧ k = 12
    · rw [if_pos q, q.1, q.2]
    · rw [if_neg q]; exact b.1 x k (by omega)
  have y := j.cg a fr ww
  have e (x : Nat) (n : x ≠ 226) : hi (wrI hr' 226 12 (hi hr 226 12)) x = hi hr' x := funext fun k => by rw [hi_wrI, if_neg (fun z => n z.1)]
  have e20 : hi (wrI hr' 226 12 (hi hr 226 12)) 226 20 = hi hr' 226 20 := by rw [hi_wrI, if_neg (by decide)]
  obtain ⟨-, y2, y3, y4⟩ := y
  refine ⟨o, ?_, ?_, fun z => ?_⟩
  · unfold CN at y2 ⊢
    rw [e 237 (by decide), e 242 (by decide), e 245 (by decide), e20] at y2
    exact y2
  · unfold NS at y3 ⊢
    rw [e 242 (by decide)] at y3
    exact y3
  · have y4 := y4 z
    unfold DR at y4 ⊢
    rw [e 235 (by decide), e 236 (by decide), e 237 (by decide), e 238 (by decide), e 239 (by decide), e 242 (by decide), e 243 (by decide), e 244 (by decide), e 245 (by decide), e 246 (by decide), e 247 (by decide)] at y4
    exact y4
theorem j_law (X : TX N kd pl vl) (j : JA N kd pl vl nm s hc hr st) (fz : st.1 = 0) {k : Int} {qc qr : Hp} (a : tkK hc qc ∧ fC hc qc ∧ ∃ f1 t1 i, lwF kd i 0 (tkS kd 61 (tkQ kd k st).1 (tkQ kd k st).2.1).1 (tkS kd 61 (tkQ kd k st).1 (tkQ kd k st).2.1).2 f1 t1 ∧ cQ qc (laE kd f1 t1 st) ∧ tI2 N t1) (b : frG hr qr ∧ ∃ f1 t1 i, lwF kd i 0 (tkS kd 61 (tkQ kd k st).1 (tkQ kd k st).2.1).1 (tkS kd 61 (tkQ kd k st).1 (tkQ kd k st).2.1).2 f1 t1 ∧ rQ pl qr (laE kd f1 t1 st) ∧ tI2 N (laE kd f1 t1 st).2.1 ∧ ((laE kd f1 t1 st).1 = 0 → (hi qr 226 12).toInt = 0)) (hk : kd st.2.1 = k) : ∃ st', JA N kd pl vl nm s qc qr st' ∧ (st'.1 = 0 → st.2.1 < st'.2.1) := by
  obtain ⟨a1, a2, f1, t1, i, a3, a4, -⟩ := a
  obtain ⟨b1, f2, t2, i', b2, b3, b4, b5⟩ := b
  obtain ⟨e1, e2⟩ := lwF.uniq _ _ _ _ _ _ _ _ _ b2 a3
  subst e1
  subst e2
  refine ⟨laE kd f2 t2 st, ⟨j.ctx a1 b1.t, b4, a4, b3, fun z => (j.2.2.2.2 fz).cg' a2 b1.r0 (b5 z) (fun w => w)⟩, fun z => ?_⟩
  have z1 : (tkS kd 59 f2 t2).1 = 0 := z
  have y := (tk_z z1).2.2.2
  have le1 : st.2.1 ≤ (tkQ kd k st).2.1 := tk_le
  have le2 := tk_le (kd := kd) (t := (tkQ kd k st).2.1) (k := 61) (f := (tkQ kd k st).1)
  have le3 := lwF.le _ _ _ _ _ _ b2
  show st.2.1 < (tkS kd 59 f2 t2).2
  rw [y]
  show st.2.1 < t2 + 1
  omega
theorem jd_t {k : Int} (z : (tkQ kd 59 (nbQ kd pl vl 0 100 (tkQ kd k st))).1 = 0) : st.2.1 < (tkQ kd 59 (nbQ kd pl vl 0 100 (tkQ kd k st))).2.1 := by
  have z1 := tq_0 z
  have e5 := nq_0 z1.1
  have e4 := tq_0 e5.1
  rw [z1.2.2, e5.2.2, e4.2.2]
  omega
theorem js_t {k : Int} (z : (tkQ kd 59 (nbQ kd pl vl 0 9999 (tkQ kd k st))).1 = 0) : st.2.1 < (tkQ kd 59 (nbQ kd pl vl 0 9999 (tkQ kd k st))).2.1 := by
  have z1 := tq_0 z
  have e5 := nq_0 z1.1
  have e4 := tq_0 e5.1
  rw [z1.2.2, e5.2.2, e4.2.2]
  omega
theorem jl_t (z : (lwE kd pl vl st).1 = 0) : st.2.1 < (lwE kd pl vl st).2.1 := by
  have z1 := tq_0 z
  have e6 := nq_0 z1.1
  have e5 := nq_0 e6.1
  have e4 := tq_0 e5.1
  unfold lwE
  rw [z1.2.2, e6.2.2, e5.2.2, e4.2.2]
  omega
theorem jr_t (z : (rpE kd pl vl st).1 = 0) : st.2.1 < (rpE kd pl vl st).2.1 := by
  have z1 := tq_0 z
  have e6 := nq_0 z1.1
  have e5 := nq_0 e6.1
  have e4 := tq_0 e5.1
  unfold rpE
  rw [z1.2.2, e6.2.2, e5.2.2, e4.2.2]
  omega
/-- both read one statement -/
def jtP (N : Nat) (kd pl vl nm : Nat → Int) (s : Nat) (st : Int × Nat × Int × Int) (qc qr : Hp) : Prop := ∃ st', JA N kd pl vl nm s qc qr st' ∧ (st'.1 = 0 → st.2.1 < st'.2.1)
/-- no statement begins so -/
theorem j_bad (X : TX N kd pl vl) (j : JA N kd pl vl nm s hc hr st) (fz : st.1 = 0) {qc qr : Hp} (a : frK hc qc ∧ cS qc 1 st.2.1) (b : frQ hr qr ∧ rT pl qr 1 st.2.1) : jtP N kd pl vl nm s st qc qr := by
  have z1 : ¬ (1 : Int) = 0 := by decide
  exact ⟨(1, st.2), ⟨j.ctx a.1.tk b.1.t, j.2.1, ⟨a.2, fun z => absurd z z1⟩, ⟨b.2, fun z => absurd z z1⟩, fun z => absurd z z1⟩, fun z => absurd z z1⟩
set_option maxHeartbeats 4000000 in
theorem rq_bad (X : TX N kd pl vl) (j : JA N kd pl vl nm s hc hr st) (fz : st.1 = 0) (nk : kd st.2.1 < 9 ∨ 18 < kd st.2.1) (n32 : kd st.2.1 ≠ 32) : Pc (F_X12_tellOne m hr) (fun qr => frQ hr qr ∧ rT pl qr 1 st.2.1) := by
  have f0 := lit_0
  have f1 := lit_1
  have S1 := j.2.2.2.1.1
  rw [fz] at S1
  have st11 := S1.2.2.1 rfl
  have n1 := ncT (show 0 ≤ (hi hr 226 11).toInt by omega)
  have n2 : Int32.toNatClampNeg (hi hr 226 11) = st.2.1 := by omega
  have rt := (j.1.2.1 _ j.2.1).1
  have key : ∀ k ∈ vdL, (k < 9 ∨ 18 < k) → k ≠ 32 → ¬ (20 ≤ rk k ∧ rk k ≤ 29) := by decide
  have nr := key _ (vdT X j.2.1) nk n32
  have bd (q : Hp → Option Hp) : Pc ((F_X12_fail m hr 1).bind (fun q148 => (if ((hi q148 226 13) : Int32) ≤ (0 : Int32) then q q148 else some q148))) (fun qr => frQ hr qr ∧ rT pl qr 1 st.2.1) := by
    refine Pc.bind (pr_fail j.1.2.1 j.2.1 S1 (by decide)) (fun r hr' => ?_)
    have z := hr'.2
    rw [if_pos rfl, f1] at z
    have g1 := z.2.1
    exact Pc.le (fun c => by exfalso; omega) (fun _ => Pc.ret ⟨hr'.1, z⟩)
  unfold F_X12_tellOne
  rw [n2]
  have l21 : (21 : Int32).toInt = 21 := by decide
  have l23 : (23 : Int32).toInt = 23 := by decide
  have l24 : (24 : Int32).toInt = 24 := by decide
  have l26 : (26 : Int32).toInt = 26 := by decide
  have l27 : (27 : Int32).toInt = 27 := by decide
  have l28 : (28 : Int32).toInt = 28 := by decide
  have l29 : (29 : Int32).toInt = 29 := by decide
  have l20 := lit_20
  have l22 := lit_22
  have l25 := lit_25
  have rb := rk_not _ (vdT X j.2.1)
  have sb := sbT (hi hr 229 st.2.1) 24 (by omega) (by omega)
  refine Pc.chk (fun _ => ?_)
  refine Pc.eq (fun c => by exfalso; omega) (fun _ => ?_)
  refine Pc.eq (fun c => by exfalso; omega) (fun _ => ?_)
  refine Pc.eq (fun c => by exfalso; omega) (fun _ => ?_)
  refine Pc.eq (fun c => by exfalso; omega) (fun _ => ?_)
  refine Pc.eq (fun c => by exfalso; omega) (fun _ => ?_)
  refine Pc.eq (fun c => by exfalso; omega) (fun _ => ?_)
  refine Pc.eq (fun c => by exfalso; omega) (fun _ => ?_)
  refine Pc.eq (fun c => by exfalso; omega) (fun _ => ?_)
  refine Pc.eq (fun c => by exfalso; omega) (fun _ => ?_)
  refine Pc.eq (fun c => by exfalso; omega) (fun _ => ?_)
  refine Pc.chk (fun _ => ?_)
  refine Pc.lt (fun _ => bd _) (fun c2 => ?_)
  refine Pc.chk (fun _ => ?_)
  exact Pc.le (fun c3 => by exfalso; omega) (fun _ => bd _)
end JT
