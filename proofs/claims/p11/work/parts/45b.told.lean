/-! WHAT IS TOLD, of both: alike -/
def TN (N : Nat) (kd vl nm : Nat → Int) : Prop := ∀ t t', t < N → t' < N → kd t = 31 → kd t' = 31 → (vl t = vl t' ↔ nm t = nm t')
def NM (N : Nat) (nm : Nat → Int) (h : Hp) : Prop := ∀ t, t < N → (hl h 232 t).toInt = nm t
def sp4 (x y : Int32) : Prop := (0 ≤ x.toInt ∧ x.toInt ≤ 4) ∧ 0 ≤ y.toInt ∧ y.toInt ≤ 4
/-- lawn, tunes, ropes, goers; s: the side that is written -/
def DR (s : Nat) (hc hr : Hp) : Prop := (hi hc 4 0 = hi hr 235 s ∧ hi hc 4 1 = hi hr 236 s) ∧ ((∀ c : Nat, c < 25 → (0 < (hi hc 16 c).toInt ↔ ∃ k : Nat, (k : Int) < (hi hr 237 s).toInt ∧ (c : Int) = (hi hr 238 (8 * s + k)).toInt + 5 * (hi hr 239 (8 * s + k)).toInt)) ∧ ∀ k : Nat, (k : Int) < (hi hr 237 s).toInt → sp4 (hi hr 238 (8 * s + k)) (hi hr 239 (8 * s + k))) ∧ ((∀ c : Nat, c < 25 → ((hi hc 2 12).toBitVec.getLsbD c = true ↔ ∃ k : Nat, (k : Int) < (hi hr 245 s).toInt ∧ (c : Int) = (hi hr 246 (8 * s + k)).toInt + 5 * (hi hr 247 (8 * s + k)).toInt)) ∧ ∀ k : Nat, (k : Int) < (hi hr 245 s).toInt → sp4 (hi hr 246 (8 * s + k)) (hi hr 247 (8 * s + k))) ∧ ∀ g : Nat, (g : Int) < (hi hr 242 s).toInt → (hi hc 15 g).toInt = (hi hr 243 (5 * s + g)).toInt + 5 * (hi hr 244 (5 * s + g)).toInt ∧ sp4 (hi hr 243 (5 * s + g)) (hi hr 244 (5 * s + g))
def CN (s : Nat) (hc hr : Hp) : Prop := ((hi hc 2 13).toInt = (hi hr 237 s).toInt ∧ 0 ≤ (hi hr 237 s).toInt ∧ (hi hr 237 s).toInt ≤ 8) ∧ ((hi hc 3 2).toInt = (hi hr 242 s).toInt ∧ 0 ≤ (hi hr 242 s).toInt ∧ (hi hr 242 s).toInt ≤ 5) ∧ ((hi hc 2 14).toInt = (hi hr 245 s).toInt ∧ 0 ≤ (hi hr 245 s).toInt ∧ (hi hr 245 s).toInt ≤ 8) ∧ (hi hr 226 20).toInt = (hi hr 242 s).toInt
def NS (N : Nat) (kd vl nm : Nat → Int) (s : Nat) (hc hr : Hp) : Prop := ∃ tau : Nat → Nat, ∀ g : Nat, (g : Int) < (hi hr 242 s).toInt → tau g < N ∧ kd (tau g) = 31 ∧ (hl hc 14 g).toInt = vl (tau g) ∧ (hl hr 234 g).toInt = nm (tau g)
def JZ (N : Nat) (kd vl nm : Nat → Int) (s : Nat) (w : Int) (hc hr : Hp) : Prop := (hi hr 226 12).toInt = 0 ∧ CN s hc hr ∧ NS N kd vl nm s hc hr ∧ (w = 0 → DR s hc hr)
/-- both have come as far -/
def JA (N : Nat) (kd pl vl nm : Nat → Int) (s : Nat) (hc hr : Hp) (st : Int × Nat × Int × Int) : Prop := (CT N kd pl vl hc ∧ RT N kd pl vl hr ∧ NM N nm hr ∧ (hi hr 226 19).toInt = (s : Int)) ∧ tI2 N st.2.1 ∧ cQ hc st ∧ rQ pl hr st ∧ (st.1 = 0 → JZ N kd vl nm s st.2.2.1 hc hr)
/-- what a statement leaves as it was -/
def fC (h h' : Hp) : Prop := (∀ a k, ((a = 2 ∧ (k = 12 ∨ k = 13 ∨ k = 14)) ∨ (a = 3 ∧ k = 2) ∨ a = 4 ∨ a = 15 ∨ a = 16) → hi h' a k = hi h a k) ∧ ∀ k, hl h' 14 k = hl h 14 k
def fR (h h' : Hp) : Prop := (∀ a k, ((235 ≤ a ∧ a ≤ 247) ∨ (a = 226 ∧ (k = 12 ∨ k = 20))) → hi h' a k = hi h a k) ∧ ∀ k, hl h' 234 k = hl h 234 k
/-- the reference's TOKENS and its side -/
def fT (h h' : Hp) : Prop := rtK h h' ∧ (∀ k, hl h' 232 k = hl h 232 k) ∧ hi h' 226 19 = hi h 226 19
section TO
variable {N : Nat} {kd pl vl nm : Nat → Int} {s : Nat} {hc hc' hr hr' h h' : Hp} {st : Int × Nat × Int × Int} {n : Nat}
theorem fT.rf (h : Hp) : fT h h := ⟨⟨fun _ => rfl, fun _ => rfl, fun _ => rfl⟩, fun _ => rfl, rfl⟩
theorem fT.tr {h0 h1 h2 : Hp} (a : fT h0 h1) (b : fT h1 h2) : fT h0 h2 := ⟨⟨fun k => (b.1.1 k).trans (a.1.1 k), fun k => (b.1.2.1 k).trans (a.1.2.1 k), fun k => (b.1.2.2 k).trans (a.1.2.2 k)⟩, fun k => (b.2.1 k).trans (a.2.1 k), b.2.2.trans a.2.2⟩
theorem frQ.t (a : frQ h h') : fT h h' := ⟨a.rt, fun k => a.2 232 k, a.1 226 19 (by decide)⟩
theorem frW.t (a : frW h h') : fT h h' := ⟨a.rt, fun k => a.2 232 k, a.1 226 19 (by decide)⟩
theorem frG.t (a : frG h h') : fT h h' := ⟨a.rt, fun k => a.2 232 k, a.1 226 19 (by omega) (by decide)⟩
theorem fR.rf (h : Hp) : fR h h := ⟨fun _ _ _ => rfl, fun _ => rfl⟩
theorem fR.tr {h0 h1 h2 : Hp} (a : fR h0 h1) (b : fR h1 h2) : fR h0 h2 := ⟨fun x k n => (b.1 x k n).trans (a.1 x k n), fun k => (b.2 k).trans (a.2 k)⟩
theorem frQ.r (a : frQ h h') : fR h h' := ⟨fun x k n => a.1 x k (by omega), fun k => a.2 234 k⟩
theorem frW.r (a : frW h h') : fR h h' := ⟨fun x k n => a.1 x k (by omega), fun k => a.2 234 k⟩
theorem fC.rf (h : Hp) : fC h h := ⟨fun _ _ _ => rfl, fun _ => rfl⟩
theorem fC.tr {h0 h1 h2 : Hp} (a : fC h0 h1) (b : fC h1 h2) : fC h0 h2 := ⟨fun x k n => (b.1 x k n).trans (a.1 x k n), fun k => (b.2 k).trans (a.2 k)⟩
theorem frV.c (a : frV h h') : fC h h' := ⟨fun x k n => a.1 x k (by omega), fun k => a.2 14 k⟩
theorem frK.c (a : frK h h') : fC h h' := a.v.c
theorem frL.c (a : frL h h') : fC h h' := ⟨fun x k n => a.1 x k (by omega) (by omega) (by omega) (by omega), fun k => a.2 14 k⟩
theorem tkK.tr {h0 h1 h2 : Hp} (a : tkK h0 h1) (b : tkK h1 h2) : tkK h0 h2 := ⟨fun k => (b.1 k).trans (a.1 k), fun k => (b.2.1 k).trans (a.2.1 k), fun k => (b.2.2.1 k).trans (a.2.2.1 k), fun k => (b.2.2.2 k).trans (a.2.2.2 k)⟩
/-- a cell that no TOKEN lies in is written -/
theorem tkK.w {x k : Nat} {v : Int32} (n1 : x ≠ 18) (n2 : x ≠ 20) (n3 : x ≠ 21) : tkK h (wrI h x k v) := ⟨fun z => by rw [hi_wrI, if_neg (fun w => n1 w.1.symm)], fun z => by rw [hi_wrI, if_neg (fun w => n2 w.1.symm)], fun z => by rw [hi_wrI, if_neg (fun w => n3 w.1.symm)], fun _ => rfl⟩
theorem cQ.w {x k : Nat} {v : Int32} (n : ¬ (x = 2 ∧ (k = 4 ∨ k = 5 ∨ k = 6 ∨ k = 7))) (S : cQ h st) : cQ (wrI h x k v) st := by
  unfold cQ cS
  rw [hi_wrI, if_neg (by omega), hi_wrI, if_neg (by omega), hi_wrI, if_neg (by omega), hi_wrI, if_neg (by omega)]
  exact S
theorem rQ.w {x k : Nat} {v : Int32} (n : x ≠ 226) (S : rQ pl h st) : rQ pl (wrI h x k v) st := by
  unfold rQ rT
  rw [hi_wrI, if_neg (by omega), hi_wrI, if_neg (by omega), hi_wrI, if_neg (by omega), hi_wrI, if_neg (by omega), hi_wrI, if_neg (by omega)]
  exact S
theorem fT.w {x k : Nat} {v : Int32} (n : 235 ≤ x) : fT h (wrI h x k v) := ⟨⟨fun z => by rw [hi_wrI, if_neg (by omega)], fun z => by rw [hi_wrI, if_neg (by omega)], fun z => by rw [hi_wrI, if_neg (by omega)]⟩, fun _ => rfl, by rw [hi_wrI, if_neg (by omega)]⟩
theorem JZ.cg {w w' : Int} (j : JZ N kd vl nm s w hc hr) (a : fC hc hc') (b : fR hr hr') (ww : w' = 0 → w = 0) : JZ N kd vl nm s w' hc' hr' := by
  obtain ⟨j1, j2, j3, j4⟩ := j
  have r (x : Nat) (n : 235 ≤ x ∧ x ≤ 247) : hi hr' x = hi hr x := funext fun k => b.1 x k (by omega)
  have c (x : Nat) (n : x = 4 ∨ x = 15 ∨ x = 16) : hi hc' x = hi hc x := funext fun k => a.1 x k (by omega)
  refine ⟨by rw [b.1 226 12 (by decide)]; exact j1, ?_, ?_, fun z => ?_⟩
  · unfold CN
    rw [a.1 2 13 (by decide), a.1 3 2 (by decide), a.1 2 14 (by decide), r 237 (by decide), r 242 (by decide), r 245 (by decide), b.1 226 20 (by decide)]
    exact j2
  · obtain ⟨tau, ht⟩ := j3
    refine ⟨tau, fun g hg => ?_⟩
    rw [r 242 (by decide)] at hg
    rw [a.2 g, b.2 g]
    exact ht g hg
  · unfold DR
    rw [c 4 (by decide), c 15 (by decide), c 16 (by decide), a.1 2 12 (by decide), r 235 (by decide), r 236 (by decide), r 237 (by decide), r 238 (by decide), r 239 (by decide), r 242 (by decide), r 243 (by decide), r 244 (by decide), r 245 (by decide), r 246 (by decide), r 247 (by decide)]
    exact j4 (ww z)
theorem JA.ctx (j : JA N kd pl vl nm s hc hr st) (a : tkK hc hc') (b : fT hr hr') : CT N kd pl vl hc' ∧ RT N kd pl vl hr' ∧ NM N nm hr' ∧ (hi hr' 226 19).toInt = (s : Int) := ⟨j.1.1.cg a, j.1.2.1.cg b.1, fun t ht => by rw [b.2.1]; exact j.1.2.2.1 t ht, by rw [b.2.2]; exact j.1.2.2.2⟩
/-- a TOKEN that is known to be there: the reference goes on -/
theorem rq_goesOn (X : TX N kd pl vl) (R : RT N kd pl vl h) (T : tI2 N st.2.1) (S : rQ pl h st) (fz : st.1 = 0) (k : Int) (hk : kd st.2.1 = k) (k2 : k ≠ 32) : Pc (F_X12_goesOn n h) (fun q => frQ h q ∧ rQ pl q (tkQ kd k st)) := by
  have S1 := S.1
  rw [fz] at S1
  refine (pr_goesOn' R T S1).mono (fun q hq => ⟨hq.1, rq_tk X T S k2 hq.1 ?_⟩)
  have e : gnS st.2.1 = tkS kd k st.1 st.2.1 := by
    unfold gnS tkS
    rw [if_pos fz, if_pos hk]
  rw [← e]
  exact hq.2
theorem tq_w {k : Int} : (tkQ kd k st).2.2 = st.2.2 := rfl
theorem tq_0 {k : Int} (z : (tkQ kd k st).1 = 0) : st.1 = 0 ∧ kd st.2.1 = k ∧ (tkQ kd k st).2.1 = st.2.1 + 1 := by
  obtain ⟨a, b, -, d⟩ := tk_z z
  refine ⟨a, b, ?_⟩
  show (tkS kd k st.1 st.2.1).2 = _
  rw [d]
theorem nq_0 {lo up : Int} (z : (nbQ kd pl vl lo up st).1 = 0) : st.1 = 0 ∧ kd st.2.1 = 30 ∧ (nbQ kd pl vl lo up st).2.1 = st.2.1 + 1 := by
  have z' : (tkS kd 30 st.1 st.2.1).1 = 0 := z
  obtain ⟨a, b, -, d⟩ := tk_z z'
  refine ⟨a, b, ?_⟩
  show (tkS kd 30 st.1 st.2.1).2 = _
  rw [d]
theorem nq_w {lo up : Int} (z : (nbQ kd pl vl lo up st).1 = 0) (w : (nbQ kd pl vl lo up st).2.2.1 = 0) : st.2.2.1 = 0 ∧ lo ≤ vl st.2.1 ∧ vl st.2.1 ≤ up := by
  by_cases c : lo ≤ vl st.2.1 ∧ vl st.2.1 ≤ up
  · have e : (nbQ kd pl vl lo up st).2.2 = st.2.2 := if_neg (fun u => u.2.1 c)
    rw [e] at w
    exact ⟨w, c⟩
  · exfalso
    by_cases v : st.2.2.1 = 0
    · have e : (nbQ kd pl vl lo up st).2.2 = (5, pl st.2.1) := if_pos ⟨z, c, v⟩
      rw [e] at w
      exact absurd w (show ¬ (5 : Int) = 0 by decide)
    · have e : (nbQ kd pl vl lo up st).2.2 = st.2.2 := if_neg (fun u => v u.2.2)
      rw [e] at w
      exact v w
/-- WET, SEED: the class -/
theorem cq_one (X : TX N kd pl vl) (C : CT N kd pl vl hc) (T : tI2 N st.2.1) (S : cQ hc st) {x1 lo up : Int32} (k : Int) (hx : x1.toInt = k) (k2 : k ≠ 32) (lu : lo.toInt ≤ up.toInt) {b : Nat} (b2 : b ≠ 2) : Pc ((F_X7_take n hc x1).bind (fun q74 => ((F_X7_takeNumber n q74.2 lo up).bind (fun q76 => ((F_X7_take n (wrI q76.2 3 b q76.1) 59).bind (fun q78 => some q78.2)))))) (fun q => tkK hc q ∧ fC hc q ∧ cQ q (tkQ kd 59 (nbQ kd pl vl lo.toInt up.toInt (tkQ kd k st)))) := by
  refine Pc.bind (cq_take X C T S k hx) (fun q1 h1 => ?_)
  have T1 := tq_in X T (k := k) k2
  refine Pc.bind (cq_number X (C.cg h1.1.tk) T1 h1.2.1 lu) (fun q2 h2 => ?_)
  have T2 := nb_in X T1 (lo := lo.toInt) (up := up.toInt)
  have tk2 : tkK hc (wrI q2.2 3 b q2.1) := (h1.1.tk.tr h2.1.tk).tr (tkK.w (by decide) (by decide) (by decide))
  refine Pc.bind (cq_take X (C.cg tk2) T2 (h2.2.1.w (by omega)) 59 lit_59) (fun q3 h3 => Pc.ret ⟨tk2.tr h3.1.tk, ?_, h3.2.1⟩)
  have fw : fC q2.2 (wrI q2.2 3 b q2.1) := ⟨fun a k' n1 => by rw [hi_wrI, if_neg (by omega)], fun _ => rfl⟩
  exact ((h1.1.c.tr h2.1.c).tr fw).tr h3.1.c
/-- WET, SEED: the reference -/
theorem rq_one (X : TX N kd pl vl) (R : RT N kd pl vl hr) (T : tI2 N st.2.1) (S : rQ pl hr st) (fz : st.1 = 0) {lo up : Int32} (k : Int) (hk : kd st.2.1 = k) (k2 : k ≠ 32) {b : Nat} (b2 : 248 ≤ b) : Pc ((F_X12_goesOn n hr).bind (fun q131 => ((F_X12_bounded n q131 lo up).bind (fun q133 => (if ixOK (hi q131 226 19) 2 = true then ((F_X12_must n (wrI q133.2 b (Int32.toNatClampNeg (hi q131 226 19)) q133.1) 4).bind (fun q136 => some q136)) else none))))) (fun q => fT hr q ∧ fR hr q ∧ rQ pl q (tkQ kd 59 (nbQ kd pl vl lo.toInt up.toInt (tkQ kd k st)))) := by
  refine Pc.bind (rq_goesOn X R T S fz k hk k2) (fun q1 h1 => ?_)
  have T1 := tq_in X T (k := k) k2
  refine Pc.bind (rq_number X (R.cg h1.1.rt) T1 h1.2) (fun q2 h2 => ?_)
  have T2 := nb_in X T1 (lo := lo.toInt) (up := up.toInt)
  refine Pc.chk (fun _ => ?_)
  have ft := (h1.1.t.tr h2.1.t).tr (fT.w (h := q2.2) (k := Int32.toNatClampNeg (hi q1 226 19)) (v := q2.1) (x := b) (by omega))
  refine Pc.bind (rq_must X (R.cg ft.1) T2 (h2.2.1.w (by omega)) 59 (by decide) (by decide) (by decide)) (fun q3 h3 => Pc.ret ⟨ft.tr h3.1.t, ?_, h3.2⟩)
  have fw : fR q2.2 (wrI q2.2 b (Int32.toNatClampNeg (hi q1 226 19)) q2.1) := ⟨fun a k' n1 => by rw [hi_wrI, if_neg (by omega)], fun _ => rfl⟩
  exact ((h1.1.r.tr h2.1.r).tr fw).tr h3.1.r
theorem j_one (X : TX N kd pl vl) (j : JA N kd pl vl nm s hc hr st) {lo up : Int} {k : Int} (k2 : k ≠ 32) {qc qr : Hp} (a : tkK hc qc ∧ fC hc qc ∧ cQ qc (tkQ kd 59 (nbQ kd pl vl lo up (tkQ kd k st)))) (b : fT hr qr ∧ fR hr qr ∧ rQ pl qr (tkQ kd 59 (nbQ kd pl vl lo up (tkQ kd k st)))) : JA N kd pl vl nm s qc qr (tkQ kd 59 (nbQ kd pl vl lo up (tkQ kd k st))) := by
  refine ⟨j.ctx a.1 b.1, tq_in X (nb_in X (tq_in X j.2.1 k2)) (by decide), a.2.2, b.2.2, fun z => ?_⟩
  have z1 := (tq_0 z).1
  have z2 := (nq_0 z1).1
  have z3 := (tq_0 z2).1
  exact (j.2.2.2.2 z3).cg a.2.1 b.2.1 (fun w => (nq_w z1 w).1)
end TO
