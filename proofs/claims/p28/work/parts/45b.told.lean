section
/-! WHAT IS TOLD, of both: alike -/
def TN (N : Nat) (kd vl nm : Nat → Int) : Prop := ∀ t t', t < N → t' < N → kd t = 31 → kd t' = 31 → (vl t = vl t' ↔ nm t = nm t')
def NM (N : Nat) (nm : Nat → Int) (h : Hp) : Prop := ∀ t, t < N → (hl h 232 t).toInt = nm t
def sp4 (x y : Int32) : Prop := (0 ≤ x.toInt ∧ x.toInt ≤ 4) ∧ 0 ≤ y.toInt ∧ y.toInt ≤ 4
/-- lawn, tunes, ropes, goers; s: the side that is written -/
def DR (s : Nat) (hc hr : Hp) : Prop := (hi hc 4 0 = hi hr 235 s ∧ hi hc 4 1 = hi hr 236 s) ∧ ((∀ c : Nat, c < 25 → (0 < (hi hc 16 c).toInt ↔ ∃ k : Nat, (k : Int) < (hi hr 237 s).toInt ∧ (c : Int) = (hi hr 238 (8 * s + k)).toInt + 5 * (hi hr 239 (8 * s + k)).toInt)) ∧ ∀ k : Nat, (k : Int) < (hi hr 237 s).toInt → sp4 (hi hr 238 (8 * s + k)) (hi hr 239 (8 * s + k))) ∧ ((∀ c : Nat, c < 25 → ((hi hc 2 12).toBitVec.getLsbD c = true ↔ ∃ k : Nat, (k : Int) < (hi hr 245 s).toInt ∧ (c : Int) = (hi hr 246 (8 * s + k)).toInt + 5 * (hi hr 247 (8 * s + k)).toInt)) ∧ ∀ k : Nat, (k : Int) < (hi hr 245 s).toInt → sp4 (hi hr 246 (8 * s + k)) (hi hr 247 (8 * s + k))) ∧ ∀ g : Nat, (g : Int) < (hi hr 242 s).toInt → (hi hc 15 g).toInt = (hi hr 243 (5 * s + g)).toInt + 5 * (hi hr 244 (5 * s + g)).toInt ∧ sp4 (hi hr 243 (5 * s + g)) (hi hr 244 (5 * s + g))
def CN (s : Nat) (hc hr : Hp) : Prop := ((hi hc 2 13).toInt = (hi hr 237 s).toInt ∧ 0 ≤ (hi hr 237 s).toInt ∧ (hi hr 237 s).toInt ≤ 8) ∧ ((hi hc 3 2).toInt = (hi hr 242 s).toInt ∧ 0 ≤ (hi hr 242 s).toInt ∧ (hi hr 242 s).toInt ≤ 5) ∧ ((hi hc 2 14).toInt = (hi hr 245 s).toInt ∧ 0 ≤ (hi hr 245 s).toInt ∧ (hi hr 245 s).toInt ≤ 8) ∧ (hi hr 226 20).toInt = (hi hr 242 s).toInt
def NS (N : Nat) (kd vl nm : Nat → Int) (s : Nat) (hc hr : Hp) : Prop := ∃ tau : Nat → Nat, ∀ g : Nat, (g : Int) < (hi hr 242 s).toInt → tau g < N ∧ kd (tau g) = 31 ∧ (hl hc 14 g).toInt = vl (tau g) ∧ (hl hr 234 g).toInt = nm (tau g)
def JZ (N : Nat) (kd vl nm : Nat → Int) (s : Nat) (w : Int) (hc hr : Hp) : Prop := (hi hr 226 12).toInt = 0 ∧ CN s hc hr ∧ NS N kd vl nm s hc hr ∧ (w = 0 → DR s hc hr)
/-- both have come as far -/
def JA (N : Nat) (kd pl vl nm : Nat → Int) (s : Nat) (hc hr : Hp) (st : Int × Nat × Int × Int) : Prop := (CT N kd pl vl hc ∧ RT N kd pl vl hr ∧ NM N nm hr ∧ (hi hr 226 19).toInt = (s : Int)) ∧ tI2 N st.2.1 ∧ cQ hc st ∧ rQ pl hr st ∧ (st.1 = 0 → JZ N kd vl nm s st.2.2.1 hc hr)
/-- what a statement leaves as it was -/
def fC (h h' : Hp) : Prop := (∀ a k, ((a = 2 ∧ (k = 12 ∨ k = 13 ∨ k = 14)) ∨ (a = 3 ∧ k = 2) ∨ a = 4 ∨ a = 15 ∨ a = 16) → hi h' a k = hi h a k) ∧ ∀ k, hl h' 14 k = hl h 14 k
def fR (h h' : Hp) : Prop := (∀ a k, ((235 ≤ a ∧ a ≤ 247) ∨ (a = 226 ∧ (k = 12 ∨ k = 20))) → hi h' a k = hi h a k) ∧ ∀ k, hl h' 234 k = hl h 234 k
/-- the reference's TOKENS and its side -/
def fT (h h' : Hp) : Prop := rtK h h' ∧ (∀ k, hl h' 232 k = hl h 232 k) ∧ hi h' 226 19 = hi h 226 19
section TO
variable {N : Nat} {kd pl vl nm : Nat → Int} {s : Nat} {hc hc' hr hr' h h' : Hp} {st : Int × Nat × Int × Int} {n : Nat}
theorem fT.rf (h : Hp) : fT h h := ⟨⟨fun _ => rfl, fun _ => rfl, fun _ => rfl⟩, fun _ => rfl, rfl⟩
theorem fT.tr {h0 h1 h2 : Hp} (a : fT h0 h1) (b : fT h1 h2) : fT h0 h2 := ⟨⟨fun k => (b.1.1 k).trans (a.1.1 k), fun k => (b.1.2.1 k).trans (a.1.2.1 k), fun k => (b.1.2.2 k).trans (a.1.2.2 k)⟩, fun k => (b.2.1 k).trans (a.2.1 k), b.2.2.trans a.2.2⟩
theorem frQ.t (a : frQ h h') : fT h h' := ⟨a.rt, fun k => a.2 232 k, a.1 226 19 (by decide)⟩
theorem frW.t (a : frW h h') : fT h h' := ⟨a.rt, fun k => a.2 232 k, a.1 226 19 (by decide)⟩
theorem frG.t (a : frG h h') : fT h h' := ⟨a.rt, fun k => a.2 232 k, a.1 226 19 (by omega) (by decide)⟩
theorem fR.rf (h : Hp) : fR h h := ⟨fun _ _ _ => rfl, fun _ => rfl⟩
theorem fR.tr {h0 h1 h2 : Hp} (a : fR h0 h1) (b : fR h1 h2) : fR h0 h2 := ⟨fun x k n => (b.1 x k n).trans (a.1 x k n), fun k => (b.2 k).trans (a.2 k)⟩
theorem frQ.r (a : frQ h h') : fR h h' := ⟨fun x k n => a.1 x k (by omega), fun k => a.2 234 k⟩
theorem frW.r (a : frW h h') : fR h h' := ⟨fun x k n => a.1 x k (by omega), fun k => a.2 234 k⟩
theorem fC.rf (h : Hp) : fC h h := ⟨fun _ _ _ => rfl, fun _ => rfl⟩
theorem fC.tr {h0 h1 h2 : Hp} (a : fC h0 h1) (b : fC h1 h2) : fC h0 h2 := ⟨fun x k n => (b.1 x k n).trans (a.1 x k n), fun k => (b.2 k).trans (a.2 k)⟩
theorem frV.c (a : frV h h') : fC h h' := ⟨fun x k n => a.1 x k (by omega), fun k => a.2 14 k⟩
theorem frK.c (a : frK h h') : fC h h' := a.v.c
theorem frL.c (a : frL h h') : fC h h' := ⟨fun x k n => a.1 x k (by omega) (by omega) (by omega) (by omega), fun k => a.2 14 k⟩
theorem tkK.tr {h0 h1 h2 : Hp} (a : tkK h0 h1) (b : tkK h1 h2) : tkK h0 h2 := ⟨fun k => (b.1 k).trans (a.1 k), fun k => (b.2.1 k).trans (a.2.1 k), fun k => (b.2.2.1 k).trans (a.2.2.1 k), fun k => (b.2.2.2 k).trans (a.2.2.2 k)⟩
/-- a cell that no TOKEN lies in is written -/
theorem tkK.w {x k : Nat} {v : Int32} (n1 : x ≠ 18) (n2 : x ≠ 20) (n3 : x ≠ 21) : tkK h (wrI h x k v) := ⟨fun z => by rw [hi_wrI, if_neg (fun w => n1 w.1.symm)], fun z => by rw [hi_wrI, if_neg (fun w => n2 w.1.symm)], fun z => by rw [hi_wrI, if_neg (fun w => n3 w.1.symm)], fun _ => rfl⟩
theorem cQ.w {x k : Nat} {v : Int32} (n : ¬ (x = 2 ∧ (k = 4 ∨ k = 5 ∨ k = 6 ∨ k = 7))) (S : cQ h st) : cQ (wrI h x k v) st := by
  unfold cQ cS
  rw [hi_wrI, if_neg (by omega), hi_wrI, if_neg (by omega), hi_wrI, if_neg (by omega), hi_wrI, if_neg (by omega)]
  exact S
theorem rQ.w {x k : Nat} {v : Int32} (n : x ≠ 226) (S : rQ pl h st) : rQ pl (wrI h x k v) st := by
  unfold rQ rT
  rw [hi_wrI, if_neg (by omega), hi_wrI, if_neg (by omega), hi_wrI, if_neg (by omega), hi_wrI, if_neg (by omega), hi_wrI, if_neg (by omega)]
  exact S
theorem fT.w {x k : Nat} {v : Int32} (n : 235 ≤ x) : fT h (wrI h x k v) := ⟨⟨fun z => by rw [hi_wrI, if_neg (by omega)], fun z => by rw [hi_wrI, if_neg (by omega)], fun z => by rw [hi_wrI, if_neg (by omega)]⟩, fun _ => rfl, by rw [hi_wrI, if_neg (by omega)]⟩
theorem JZ.cg {w w' : Int} (j : JZ N kd vl nm s w hc hr) (a : fC hc hc') (b : fR hr hr') (ww : w' = 0 → w = 0) : JZ N kd vl nm s w' hc' hr' := by
  obtain ⟨j1, j2, j3, j4⟩ := j
  have r (x : Nat) (n : 235 ≤ x ∧ x ≤ 247) : hi hr' x = hi hr x := funext fun k => b.1 x k (by omega)
  have c (x : Nat) (n : x = 4 ∨ x = 15 ∨ x = 16) : hi hc' x = hi hc x := funext fun k => a.1 x k (by omega)
  refine ⟨by rw [b.1 226 12 (by decide)]; exact j1, ?_, ?_, fun z => ?_⟩
  · unfold CN
    rw [a.1 2 13 (by decide), a.1 3 2 (by decide), a.1 2 14 (by decide), r 237 (by decide), r 242 (by decide), r 245 (by decide), b.1 226 20 (by decide)]
    exact j2
  · obtain ⟨tau, ht⟩ := j3
    refine ⟨tau, fun g hg => ?_⟩
    rw [r 242 (by decide)] at hg
    rw [a.2 g, b.2 g]
    exact ht g hg
  · unfold DR
    rw [c 4 (by decide), c 15 (by decide), c 16 (by decide), a.1 2 12 (by decide), r 235 (by decide), r 236 (by decide), r 237 (by decide), r 238 (by decide), r 239 (by decide), r 242 (by decide), r 243 (by decide), r 244 (by decide), r 245 (by decide), r 246 (by decide), r 247 (by decide)]
    exact j4 (ww z)
theorem JA.ctx (j : JA N kd pl vl nm s hc hr st) (a : tkK hc hc') (b : fT hr hr') : CT N kd pl vl hc' ∧ RT N kd pl vl hr' ∧ NM N nm hr' ∧ (hi hr' 226 19).toInt = (s : Int) := ⟨j.1.1.cg a, j.1.2.1.cg b.1, fun t ht => by rw [b.2.1]; exact j.1.2.2.1 t ht, by rw [b.2.2]; exact j.1.2.2.2⟩
/-- a TOKEN that is known to be there: the reference goes on -/
theorem rq_goesOn (X : TX N kd pl vl) (R : RT N kd pl vl h) (T : tI2 N st.2.1) (S : rQ pl h st) (fz : st.1 = 0) (k : Int) (hk : kd st.2.1 = k) (k2 : k ≠ 32) : Pc (F_X12_goesOn n h) (fun q => frQ h q ∧ rQ pl q (tkQ kd k st)) := by
  have S1 := S.1
  rw [fz] at S1
  refine (pr_goesOn' R T S1).mono (fun q hq => ⟨hq.1, rq_tk X T S k2 hq.1 ?_⟩)
  have e : gnS st.2.1 = tkS kd k st.1 st.2.1 := by
    unfold gnS tkS
    rw [if_pos fz, if_pos hk]
  rw [← e]
  exact hq.2
theorem tq_w {k : Int} : (tkQ kd k st).2.2 = st.2.2 := rfl
theorem tq_0 {k : Int} (z : (tkQ kd k st).1 = 0) : st.1 = 0 ∧ kd st.2.1 = k ∧ (tkQ kd k st).2.1 = st.2.1 + 1 := by
  obtain ⟨a, b, -, d⟩ := tk_z z
  refine ⟨a, b, ?_⟩
  show (tkS kd k st.1 st.2.1).2 = _
  rw [d]
theorem nq_0 {lo up : Int} (z : (nbQ kd pl vl lo up st).1 = 0) : st.1 = 0 ∧ kd st.2.1 = 30 ∧ (nbQ kd pl vl lo up st).2.1 = st.2.1 + 1 := by
  have z' : (tkS kd 30 st.1 st.2.1).1 = 0 := z
  obtain ⟨a, b, -, d⟩ := tk_z z'
  refine ⟨a, b, ?_⟩
  show (tkS kd 30 st.1 st.2.1).2 = _
  rw [d]
theorem nq_w {lo up : Int} (z : (nbQ kd pl vl lo up st).1 = 0) (w : (nbQ kd pl vl lo up st).2.2.1 = 0) : st.2.2.1 = 0 ∧ lo ≤ vl st.2.1 ∧ vl st.2.1 ≤ up := by
  by_cases c : lo ≤ vl st.2.1 ∧ vl st.2.1 ≤ up
  · have e : (nbQ kd pl vl lo up st).2.2 = st.2.2 := if_neg (fun u => u.2.1 c)
    rw [e] at w
    exact ⟨w, c⟩
  · exfalso
    by_cases v : st.2.2.1 = 0
    · have e : (nbQ kd pl vl lo up st).2.2 = (5, pl st.2.1) := if_pos ⟨z, c, v⟩
      rw [e] at w
      exact absurd w (show ¬ (5 : Int) = 0 by decide)
    · have e : (nbQ kd pl vl lo up st).2.2 = st.2.2 := if_neg (fun u => v u.2.2)
      rw [e] at w
      exact v w
/-- WET, SEED: the class -/
theorem cq_one (X : TX N kd pl vl) (C : CT N kd pl vl hc) (T : tI2 N st.2.1) (S : cQ hc st) {x1 lo up : Int32} (k : Int) (hx : x1.toInt = k) (k2 : k ≠ 32) (lu : lo.toInt ≤ up.toInt) {b : Nat} (b2 : b ≠ 2) : Pc ((F_X7_take n hc x1).bind (fun q74 => ((F_X7_takeNumber n q74.2 lo up).bind (fun q76 => ((F_X7_take n (wrI q76.2 3 b q76.1) 59).bind (fun q78 => some q78.2)))))) (fun q => tkK hc q ∧ fC hc q ∧ cQ q (tkQ kd 59 (nbQ kd pl vl lo.toInt up.toInt (tkQ kd k st)))) := by
  refine Pc.bind (cq_take X C T S k hx) (fun q1 h1 => ?_)
  have T1 := tq_in X T (k := k) k2
  refine Pc.bind (cq_number X (C.cg h1.1.tk) T1 h1.2.1 lu) (fun q2 h2 => ?_)
  have T2 := nb_in X T1 (lo := lo.toInt) (up := up.toInt)
  have tk2 : tkK hc (wrI q2.2 3 b q2.1) := (h1.1.tk.tr h2.1.tk).tr (tkK.w (by decide) (by decide) (by decide))
  refine Pc.bind (cq_take X (C.cg tk2) T2 (h2.2.1.w (by omega)) 59 lit_59) (fun q3 h3 => Pc.ret ⟨tk2.tr h3.1.tk, ?_, h3.2.1⟩)
  have fw : fC q2.2 (wrI q2.2 3 b q2.1) := ⟨fun a k' n1 => by rw [hi_wrI, if_neg (by omega)], fun _ => rfl⟩
  exact ((h1.1.c.tr h2.1.c).tr fw).tr h3.1.c
/-- WET, SEED: the reference -/
theorem rq_one (X : TX N kd pl vl) (R : RT N kd pl vl hr) (T : tI2 N st.2.1) (S : rQ pl hr st) (fz : st.1 = 0) {lo up : Int32} (k : Int) (hk : kd st.2.1 = k) (k2 : k ≠ 32) {b : Nat} (b2 : 248 ≤ b) : Pc ((F_X12_goesOn n hr).bind (fun q131 => ((F_X12_bounded n q131 lo up).bind (fun q133 => (if ixOK (hi q131 226 19) 2 = true then ((F_X12_must n (wrI q133.2 b (Int32.toNatClampNeg (hi q131 226 19)) q133.1) 4).bind (fun q136 => some q136)) else none))))) (fun q => fT hr q ∧ fR hr q ∧ rQ pl q (tkQ kd 59 (nbQ kd pl vl lo.toInt up.toInt (tkQ kd k st)))) := by
  refine Pc.bind (rq_goesOn X R T S fz k hk k2) (fun q1 h1 => ?_)
  have T1 := tq_in X T (k := k) k2
  refine Pc.bind (rq_number X (R.cg h1.1.rt) T1 h1.2) (fun q2 h2 => ?_)
  have T2 := nb_in X T1 (lo := lo.toInt) (up := up.toInt)
  refine Pc.chk (fun _ => ?_)
  have ft := (h1.1.t.tr h2.1.t).tr (fT.w (h := q2.2) (k := Int32.toNatClampNeg (hi q1 226 19)) (v := q2.1) (x := b) (by omega))
  refine Pc.bind (rq_must X (R.cg ft.1) T2 (h2.2.1.w (by omega)) 59 (by decide) (by decide) (by decide)) (fun q3 h3 => Pc.ret ⟨ft.tr h3.1.t, ?_, h3.2⟩)
  have fw : fR q2.2 (wrI q2.2 b (Int32.toNatClampNeg (hi q1 226 19)) q2.1) := ⟨fun a k' n1 => by rw [hi_wrI, if_neg (by omega)], fun _ => rfl⟩
  exact ((h1.1.r.tr h2.1.r).tr fw).tr h3.1.r
theorem j_one (X : TX N kd pl vl) (j : JA N kd pl vl nm s hc hr st) {lo up : Int} {k : Int} (k2 : k ≠ 32) {qc qr : Hp} (a : tkK hc qc ∧ fC hc qc ∧ cQ qc (tkQ kd 59 (nbQ kd pl vl lo up (tkQ kd k st)))) (b : fT hr qr ∧ fR hr qr ∧ rQ pl qr (tkQ kd 59 (nbQ kd pl vl lo up (tkQ kd k st)))) : JA N kd pl vl nm s qc qr (tkQ kd 59 (nbQ kd pl vl lo up (tkQ kd k st))) := by
  refine ⟨j.ctx a.1 b.1, tq_in X (nb_in X (tq_in X j.2.1 k2)) (by decide), a.2.2, b.2.2, fun z => ?_⟩
  have z1 := (tq_0 z).1
  have z2 := (nq_0 z1).1
  have z3 := (tq_0 z2).1
  exact (j.2.2.2.2 z3).cg a.2.1 b.2.1 (fun w => (nq_w z1 w).1)
end TO
end
section
/-! LAWN, ROPE of both -/
theorem or_bit (x : Int32) (y : Int32) (k : Nat) (hk : k < 25) (hy : y.toInt = (k : Int)) (c : Nat) (hc : c < 25) : ((x ||| ((1 : Int32) <<< (y &&& 31))) : Int32).toBitVec.getLsbD c = true ↔ (x.toBitVec.getLsbD c = true ∨ c = k) := by
  have e : y = Int32.ofNat k := by
    apply Int32.toInt_inj.mp
    rw [hy, Int32.toInt_ofNat_of_lt (by omega)]
  subst e
  have key : ∀ k : Fin 25, ∀ c : Fin 25, ((1 : Int32) <<< (Int32.ofNat k.val &&& 31)).toBitVec.getLsbD c.val = decide (c.val = k.val) := by decide
  have z := key ⟨k, hk⟩ ⟨c, hc⟩
  show (x.toBitVec ||| ((1 : Int32) <<< (Int32.ofNat k &&& 31)).toBitVec).getLsbD c = true ↔ _
  rw [BitVec.getLsbD_or, z]
  simp
section LR4
variable {N : Nat} {kd pl vl nm : Nat → Int} {s : Nat} {hc hr h : Hp} {st : Int × Nat × Int × Int} {n : Nat}
theorem pc_lay {x1 x2 : Int32} : Pc (F_X3_lay n h 4 x1 x2) (fun q => (∀ a k, a ≠ 4 → hi q a k = hi h a k) ∧ (∀ a k, hl q a k = hl h a k) ∧ hi q 4 0 = x1 ∧ hi q 4 1 = x2) := by
  have lp : ∀ (n : Nat) (g : Hp) (l3 : Int32), (∀ a k, a ≠ 4 → hi g a k = hi h a k) → (∀ a k, hl g a k = hl h a k) → hi g 4 0 = x1 → hi g 4 1 = x2 → Pc (W_X3_lay n 17 g 4 x1 x2 l3) (fun q => (∀ a k, a ≠ 4 → hi q a k = hi h a k) ∧ (∀ a k, hl q a k = hl h a k) ∧ hi q 4 0 = x1 ∧ hi q 4 1 = x2) := by
    intro n
    induction n with
    | zero => intro g l3 a b c d; exact Pc.no
    | succ n ih =>
      intro g l3 a b c d
      rw [u_X3_lay]
      refine Pc.pos rfl ?_
      refine Pc.ite (fun _ => Pc.ret ⟨fun x k n1 => by rw [hi_wrI, if_neg (by omega)]; exact a x k n1, fun x k => b x k, by rw [hi_wrI, if_neg (by omega)]; exact c, by rw [hi_wrI, if_neg (by omega)]; exact d⟩) (fun _ => ?_)
      exact ih _ _ (fun x k n1 => by rw [hi_wrI, if_neg (by omega)]; exact a x k n1) (fun x k => b x k) (by rw [hi_wrI, if_neg (by omega)]; exact c) (by rw [hi_wrI, if_neg (by omega)]; exact d)
  unfold F_X3_lay
  refine lp n _ 0 (fun x k n1 => ?_) (fun _ _ => rfl) ?_ ?_
  · rw [hi_wrI, if_neg (by omega), hi_wrI, if_neg (by omega), hi_wrI, if_neg (by omega)]
  · rw [hi_wrI, if_neg (by decide), hi_wrI, if_neg (by decide), hi_wrI, if_pos ⟨rfl, rfl⟩]
  · rw [hi_wrI, if_neg (by decide), hi_wrI, if_pos ⟨rfl, rfl⟩]
/-- two numbers, one behind the other: none due means both are what the text says -/
theorem two_w {lo up lo' up' : Int} (z : (nbQ kd pl vl lo' up' (nbQ kd pl vl lo up st)).1 = 0) (w : (nbQ kd pl vl lo' up' (nbQ kd pl vl lo up st)).2.2.1 = 0) : st.2.2.1 = 0 ∧ (lo ≤ vl st.2.1 ∧ vl st.2.1 ≤ up) ∧ (lo' ≤ vl (st.2.1 + 1) ∧ vl (st.2.1 + 1) ≤ up') := by
  have z1 := nq_0 z
  have w1 := nq_w z w
  have w2 := nq_w z1.1 w1.1
  have e := (nq_0 z1.1).2.2
  rw [e] at w1
  exact ⟨w2.1, w2.2, w1.2⟩
/-- LAWN -/
def lwE (kd pl vl : Nat → Int) (st : Int × Nat × Int × Int) : Int × Nat × Int × Int := tkQ kd 59 (nbQ kd pl vl 2 5 (nbQ kd pl vl 2 5 (tkQ kd 9 st)))
def clP (kd pl vl : Nat → Int) (st : Int × Nat × Int × Int) (h q : Hp) : Prop := tkK h q ∧ ((∀ a k, ((a = 2 ∧ (k = 12 ∨ k = 13 ∨ k = 14)) ∨ (a = 3 ∧ k = 2) ∨ a = 15 ∨ a = 16) → hi q a k = hi h a k) ∧ ∀ k, hl q 14 k = hl h 14 k) ∧ cQ q (lwE kd pl vl st) ∧ ((lwE kd pl vl st).1 = 0 → (lwE kd pl vl st).2.2.1 = 0 → (hi q 4 0).toInt = vl (st.2.1 + 1) ∧ (hi q 4 1).toInt = vl (st.2.1 + 2))
theorem cq_lawn (X : TX N kd pl vl) (C : CT N kd pl vl hc) (T : tI2 N st.2.1) (S : cQ hc st) : Pc ((F_X7_readLawn n hc).bind (fun q2 => ((F_X7_take n q2 59).bind (fun q4 => some q4.2)))) (clP kd pl vl st hc) := by
  have f2 := lit_2
  have f5 := lit_5
  unfold F_X7_readLawn
  rw [Option.bind_assoc]
  refine Pc.bind (cq_take X C T S 9 lit_9) (fun q1 h1 => ?_)
  rw [Option.bind_assoc]
  have T1 := tq_in X T (k := 9) (by decide)
  refine Pc.bind (cq_number X (C.cg h1.1.tk) T1 h1.2.1 (by decide)) (fun q3 h3 => ?_)
  rw [Option.bind_assoc]
  rw [f2, f5] at h3
  have T2 := nb_in X T1 (lo := 2) (up := 5)
  have tk3 := h1.1.tk.tr h3.1.tk
  refine Pc.bind (cq_number X (C.cg tk3) T2 h3.2.1 (by decide)) (fun q5 h5 => ?_)
  rw [f2, f5] at h5
  rw [Option.bind_assoc]
  have T3 := nb_in X T2 (lo := 2) (up := 5)
  have tk5 := tk3.tr h5.1.tk
  refine Pc.bind pc_lay (fun q7 h7 => ?_)
  obtain ⟨l1, l2, l3, l4⟩ := h7
  have tk7 : tkK hc q7 := tk5.tr ⟨fun k => l1 18 k (by decide), fun k => l1 20 k (by decide), fun k => l1 21 k (by decide), fun k => l2 22 k⟩
  have c7 : cQ q7 (nbQ kd pl vl 2 5 (nbQ kd pl vl 2 5 (tkQ kd 9 st))) := by
    have := h5.2.1
    unfold cQ cS at this ⊢
    rw [l1 2 5 (by decide), l1 2 4 (by decide), l1 2 6 (by decide), l1 2 7 (by decide)]
    exact this
  show Pc ((F_X7_take n q7 59).bind (fun q4 => some q4.2)) (clP kd pl vl st hc)
  refine Pc.bind (cq_take X (C.cg tk7) T3 c7 59 lit_59) (fun q9 h9 => Pc.ret ⟨tk7.tr h9.1.tk, ⟨fun a k n1 => ?_, fun k => ?_⟩, h9.2.1, fun z w => ?_⟩)
  · rw [h9.1.1 a k (by omega), l1 a k (by omega), h5.1.1 a k (by omega), h3.1.1 a k (by omega), h1.1.1 a k (by omega)]
  · rw [h9.1.2, l2, h5.1.2, h3.1.2, h1.1.2]
  · have z1 := (tq_0 z).1
    have t2 := two_w z1 w
    have e1 := (tq_0 (nq_0 (nq_0 z1).1).1).2.2
    have a1 := h3.2.2.2 (nq_0 z1).1 t2.2.1.1 t2.2.1.2
    have e2 := (nq_0 (nq_0 z1).1).2.2
    have a2 := h5.2.2.2 z1 (by rw [e2]; exact t2.2.2.1) (by rw [e2]; exact t2.2.2.2)
    rw [h9.1.1 4 0 (by decide), h9.1.1 4 1 (by decide), l3, l4, a1, a2, e2, e1]
    exact ⟨rfl, rfl⟩
def rlP (kd pl vl : Nat → Int) (s : Nat) (st : Int × Nat × Int × Int) (h q : Hp) : Prop := fT h q ∧ ((∀ a k, ((237 ≤ a ∧ a ≤ 247) ∨ (a = 226 ∧ (k = 12 ∨ k = 20))) → hi q a k = hi h a k) ∧ ∀ k, hl q 234 k = hl h 234 k) ∧ rQ pl q (lwE kd pl vl st) ∧ ((lwE kd pl vl st).1 = 0 → (hi q 235 s).toInt = vl (st.2.1 + 1) ∧ (hi q 236 s).toInt = vl (st.2.1 + 2))
theorem rq_lawn (X : TX N kd pl vl) (R : RT N kd pl vl hr) (T : tI2 N st.2.1) (S : rQ pl hr st) (fz : st.1 = 0) (hk : kd st.2.1 = 9) (sd : (hi hr 226 19).toInt = (s : Int)) : Pc ((F_X12_goesOn n hr).bind (fun q3 => ((F_X12_bounded n q3 2 5).bind (fun q5 => (if ixOK (hi q3 226 19) 2 = true then ((F_X12_bounded n (wrI q5.2 235 (Int32.toNatClampNeg (hi q3 226 19)) q5.1) 2 5).bind (fun q8 => (if ixOK (hi (wrI q5.2 235 (Int32.toNatClampNeg (hi q3 226 19)) q5.1) 226 19) 2 = true then ((F_X12_must n (wrI q8.2 236 (Int32.toNatClampNeg (hi (wrI q5.2 235 (Int32.toNatClampNeg (hi q3 226 19)) q5.1) 226 19)) q8.1) 4).bind (fun q11 => some q11)) else none))) else none))))) (rlP kd pl vl s st hr) := by
  have f2 := lit_2
  have f5 := lit_5
  refine Pc.bind (rq_goesOn X R T S fz 9 hk (by decide)) (fun q3 h3 => ?_)
  have T1 := tq_in X T (k := 9) (by decide)
  refine Pc.bind (rq_number X (R.cg h3.1.rt) T1 h3.2) (fun q5 h5 => ?_)
  rw [f2, f5] at h5
  have T2 := nb_in X T1 (lo := 2) (up := 5)
  refine Pc.chk (fun _ => ?_)
  have e19 : hi q3 226 19 = hi hr 226 19 := h3.1.1 226 19 (by decide)
  have ns := ncT (show 0 ≤ (hi hr 226 19).toInt by omega)
  have es : Int32.toNatClampNeg (hi hr 226 19) = s := by omega
  have e19' (v : Int32) : hi (wrI q5.2 235 s v) 226 19 = hi hr 226 19 := by rw [hi_wrI, if_neg (by omega), h5.1.1 226 19 (by decide)]; exact e19
  rw [e19, es, e19', es]
  generalize eg : wrI q5.2 235 s q5.1 = g
  have ft1 : fT hr g := by rw [← eg]; exact (h3.1.t.tr h5.1.t).tr (fT.w (by decide))
  have rg : rQ pl g (nbQ kd pl vl 2 5 (tkQ kd 9 st)) := by rw [← eg]; exact h5.2.1.w (by decide)
  refine Pc.bind (rq_number X (R.cg ft1.1) T2 rg) (fun q8 h8 => ?_)
  rw [f2, f5] at h8
  have T3 := nb_in X T2 (lo := 2) (up := 5)
  refine Pc.chk (fun _ => ?_)
  have ft2 := (ft1.tr h8.1.t).tr (fT.w (h := q8.2) (k := s) (v := q8.1) (x := 236) (by decide))
  refine Pc.bind (rq_must X (R.cg ft2.1) T3 (h8.2.1.w (by decide)) 59 (by decide) (by decide) (by decide)) (fun q11 h11 => Pc.ret ⟨ft2.tr h11.1.t, ⟨fun a k n1 => ?_, fun k => ?_⟩, h11.2, fun z => ?_⟩)
  · rw [h11.1.1 a k (by omega), hi_wrI, if_neg (by omega), h8.1.1 a k (by omega), ← eg, hi_wrI, if_neg (by omega), h5.1.1 a k (by omega), h3.1.1 a k (by omega)]
  · rw [h11.1.2, hl_wrI, h8.1.2, ← eg, hl_wrI, h5.1.2, h3.1.2]
  · have z1 := (tq_0 z).1
    have e2 := (nq_0 (nq_0 z1).1).2.2
    have e1 := (tq_0 (nq_0 (nq_0 z1).1).1).2.2
    have a1 := h5.2.2 (nq_0 z1).1
    have a2 := h8.2.2 z1
    rw [h11.1.1 235 s (by omega), hi_wrI, if_neg (by omega), h8.1.1 235 s (by omega), hiE eg, h11.1.1 236 s (by omega), hi_wrI, if_pos ⟨rfl, rfl⟩, a1, a2, e2, e1]
    exact ⟨rfl, rfl⟩
theorem j_lawn (X : TX N kd pl vl) (j : JA N kd pl vl nm s hc hr st) {qc qr : Hp} (a : clP kd pl vl st hc qc) (b : rlP kd pl vl s st hr qr) : JA N kd pl vl nm s qc qr (lwE kd pl vl st) := by
  refine ⟨j.ctx a.1 b.1, tq_in X (nb_in X (nb_in X (tq_in X j.2.1 (by decide)))) (by decide), a.2.2.1, b.2.2.1, fun z => ?_⟩
  have z1 := (tq_0 z).1
  have z0 := (tq_0 (nq_0 (nq_0 z1).1).1).1
  obtain ⟨j1, j2, j3, j4⟩ := j.2.2.2.2 z0
  have r (x : Nat) (n : 237 ≤ x ∧ x ≤ 247) : hi qr x = hi hr x := funext fun k => b.2.1.1 x k (by omega)
  have c (x : Nat) (n : x = 15 ∨ x = 16) : hi qc x = hi hc x := funext fun k => a.2.1.1 x k (by omega)
  refine ⟨by rw [b.2.1.1 226 12 (by decide)]; exact j1, ?_, ?_, fun w => ?_⟩
  · unfold CN
    rw [a.2.1.1 2 13 (by decide), a.2.1.1 3 2 (by decide), a.2.1.1 2 14 (by decide), r 237 (by decide), r 242 (by decide), r 245 (by decide), b.2.1.1 226 20 (by decide)]
    exact j2
  · obtain ⟨tau, ht⟩ := j3
    refine ⟨tau, fun g hg => ?_⟩
    rw [r 242 (by decide)] at hg
    rw [a.2.1.2 g, b.2.1.2 g]
    exact ht g hg
  · have t2 := two_w z1 w
    have x := a.2.2.2 z w
    have y := b.2.2.2 z
    obtain ⟨-, d2⟩ := j4 t2.1
    refine ⟨⟨Int32.toInt_inj.mp (x.1.trans y.1.symm), Int32.toInt_inj.mp (x.2.trans y.2.symm)⟩, ?_⟩
    rw [c 15 (by decide), c 16 (by decide), a.2.1.1 2 12 (by decide), r 237 (by decide), r 238 (by decide), r 239 (by decide), r 242 (by decide), r 243 (by decide), r 244 (by decide), r 245 (by decide), r 246 (by decide), r 247 (by decide)]
    exact d2
end LR4
end
section
/-! ROPE of both -/
section RO
variable {N : Nat} {kd pl vl nm : Nat → Int} {s : Nat} {hc hr h : Hp} {st : Int × Nat × Int × Int} {n : Nat}
theorem tq_f {k : Int} (fz : st.1 ≠ 0) : tkQ kd k st = st := by
  unfold tkQ
  rw [tk_f fz]
theorem nq_f {lo up : Int} (fz : st.1 ≠ 0) : nbQ kd pl vl lo up st = st := by
  unfold nbQ
  rw [tk_f fz, if_neg (fun z => fz z.1)]
/-- a spot: the class -/
theorem cq_spot (X : TX N kd pl vl) (C : CT N kd pl vl h) (T : tI2 N st.2.1) (S : cQ h st) : Pc (F_X7_takeSpot n h) (fun q => frV h q.2 ∧ cQ q.2 (nbQ kd pl vl 0 4 (nbQ kd pl vl 0 4 st)) ∧ (0 ≤ q.1.toInt ∧ q.1.toInt ≤ 24) ∧ ((nbQ kd pl vl 0 4 (nbQ kd pl vl 0 4 st)).1 = 0 → (nbQ kd pl vl 0 4 (nbQ kd pl vl 0 4 st)).2.2.1 = 0 → q.1.toInt = vl st.2.1 + 5 * vl (st.2.1 + 1))) := by
  have f0 := lit_0
  have f4 := lit_4
  have f5 := lit_5
  unfold F_X7_takeSpot
  refine Pc.bind (cq_number X C T S (by decide)) (fun q1 h1 => ?_)
  rw [f0, f4] at h1
  have T1 := nb_in X T (lo := 0) (up := 4)
  refine Pc.bind (cq_number X (C.cg h1.1.tk) T1 h1.2.1 (by decide)) (fun q3 h3 => ?_)
  rw [f0, f4] at h3
  have r1 := h1.2.2.1
  have r3 := h3.2.2.1
  have m1 := mlT 5 q3.1 5 lit_5 (by omega) (by omega)
  have a1 := adT q1.1 (5 * q3.1) (by omega) (by omega)
  refine Pc.ret ⟨h1.1.tr h3.1, h3.2.1, ?_, fun z w => ?_⟩
  · show 0 ≤ (q1.1 + 5 * q3.1).toInt ∧ (q1.1 + 5 * q3.1).toInt ≤ 24
    omega
  · have t2 := two_w z w
    have z1 := nq_0 z
    have e := (nq_0 z1.1).2.2
    have b1 := h1.2.2.2 z1.1 t2.2.1.1 t2.2.1.2
    have b2 := h3.2.2.2 z (by rw [e]; exact t2.2.2.1) (by rw [e]; exact t2.2.2.2)
    rw [e] at b2
    show (q1.1 + 5 * q3.1).toInt = _
    omega
def rpE (kd pl vl : Nat → Int) (st : Int × Nat × Int × Int) : Int × Nat × Int × Int := tkQ kd 59 (nbQ kd pl vl 0 4 (nbQ kd pl vl 0 4 (tkQ kd 12 st)))
/-- where there is no room -/
def fuE (st : Int × Nat × Int × Int) : Int × Nat × Int × Int := (2, st.2)
def crP (kd pl vl : Nat → Int) (st : Int × Nat × Int × Int) (h q : Hp) : Prop := tkK h q ∧ (((hi h 2 14).toInt < 8 ∧ ((∀ a k, ((a = 2 ∧ k = 13) ∨ (a = 3 ∧ k = 2) ∨ a = 4 ∨ a = 15 ∨ a = 16) → hi q a k = hi h a k) ∧ ∀ k, hl q 14 k = hl h 14 k) ∧ hi q 2 14 = hi h 2 14 + 1 ∧ cQ q (rpE kd pl vl st) ∧ ((rpE kd pl vl st).1 = 0 → (rpE kd pl vl st).2.2.1 = 0 → ∃ y : Int32, (0 ≤ y.toInt ∧ y.toInt ≤ 24) ∧ y.toInt = vl (st.2.1 + 1) + 5 * vl (st.2.1 + 2) ∧ hi q 2 12 = (hi h 2 12 ||| ((1 : Int32) <<< (y &&& 31))))) ∨ (8 ≤ (hi h 2 14).toInt ∧ cQ q (fuE st)))
theorem cq_rope (X : TX N kd pl vl) (C : CT N kd pl vl hc) (T : tI2 N st.2.1) (S : cQ hc st) (fz : st.1 = 0) : Pc ((F_X7_readRope n hc).bind (fun q2 => ((F_X7_take n q2 59).bind (fun q4 => some q4.2)))) (crP kd pl vl st hc) := by
  have f8 := lit_8
  have f2 := lit_2
  -- from the TOKEN on
  have go (g : Hp) (s' : Int × Nat × Int × Int) (Tg : tI2 N s'.2.1) (tg : tkK hc g) (Sg : cQ g s') : Pc (((F_X7_take n g 12).bind (fun q2 => ((F_X7_takeSpot n q2.2).bind (fun q4 => some (wrI q4.2 2 12 (((hi q2.2 2 12) : Int32) ||| (((1 : Int32) <<< ((q4.1 : Int32) &&& 31)) : Int32)))))))) (fun q => tkK hc q ∧ (∀ a k, ¬ (a = 2 ∧ (k = 4 ∨ k = 5 ∨ k = 6 ∨ k = 7 ∨ k = 12)) → hi q a k = hi g a k) ∧ (∀ a k, hl q a k = hl g a k) ∧ cQ q (nbQ kd pl vl 0 4 (nbQ kd pl vl 0 4 (tkQ kd 12 s'))) ∧ tI2 N (nbQ kd pl vl 0 4 (nbQ kd pl vl 0 4 (tkQ kd 12 s'))).2.1 ∧ ∃ y : Int32, (0 ≤ y.toInt ∧ y.toInt ≤ 24) ∧ ((nbQ kd pl vl 0 4 (nbQ kd pl vl 0 4 (tkQ kd 12 s'))).1 = 0 → (nbQ kd pl vl 0 4 (nbQ kd pl vl 0 4 (tkQ kd 12 s'))).2.2.1 = 0 → y.toInt = vl (tkQ kd 12 s').2.1 + 5 * vl ((tkQ kd 12 s').2.1 + 1)) ∧ hi q 2 12 = (hi g 2 12 ||| ((1 : Int32) <<< (y &&& 31)))) := by
    refine Pc.bind (cq_take X (C.cg tg) Tg Sg 12 lit_12) (fun q2 h2 => ?_)
    have T1 := tq_in X Tg (k := 12) (by decide)
    refine Pc.bind (cq_spot X (C.cg (tg.tr h2.1.tk)) T1 h2.2.1) (fun q4 h4 => Pc.ret ?_)
    have e12 : hi q2.2 2 12 = hi g 2 12 := h2.1.1 2 12 (by decide)
    refine ⟨((tg.tr h2.1.tk).tr h4.1.tk).tr (tkK.w (by decide) (by decide) (by decide)), fun a k n1 => ?_, fun a k => ?_, h4.2.1.w (by decide), nb_in X (nb_in X T1), q4.1, h4.2.2.1, h4.2.2.2, ?_⟩
    · rw [hi_wrI, if_neg (by omega), h4.1.1 a k (by omega), h2.1.1 a k (by omega)]
    · rw [hl_wrI, h4.1.2, h2.1.2]
    · rw [hi_wrI, if_pos ⟨rfl, rfl⟩, e12]
  unfold F_X7_readRope
  by_cases c : (hi hc 2 14) < (8 : Int32)
  · rw [if_pos c]
    have c' := Int32.lt_iff_toInt_lt.mp c
    generalize eg : wrI hc 2 14 (hi hc 2 14 + 1) = g
    have tg : tkK hc g := by rw [← eg]; exact tkK.w (by decide) (by decide) (by decide)
    have Sg : cQ g st := by rw [← eg]; exact S.w (by decide)
    refine Pc.bind (go g st T tg Sg) (fun q hq => ?_)
    obtain ⟨a1, a2, a3, a4, a5, y, y1, y2, y3⟩ := hq
    refine Pc.bind (cq_take X (C.cg a1) a5 a4 59 lit_59) (fun r hr' => Pc.ret ⟨a1.tr hr'.1.tk, Or.inl ⟨by omega, ⟨fun a k n1 => ?_, fun k => ?_⟩, ?_, hr'.2.1, fun z w => ?_⟩⟩)
    · rw [hr'.1.1 a k (by omega), a2 a k (by omega), ← eg, hi_wrI, if_neg (by omega)]
    · rw [hr'.1.2, a3, ← eg, hl_wrI]
    · rw [hr'.1.1 2 14 (by decide), a2 2 14 (by decide), hiE eg]
    · have z1 := (tq_0 z).1
      have e1 := (tq_0 (nq_0 (nq_0 z1).1).1).2.2
      have yy := y2 z1 w
      rw [e1] at yy
      refine ⟨y, y1, yy, ?_⟩
      rw [hr'.1.1 2 12 (by decide), y3, ← eg, hi_wrI, if_neg (by decide)]
  · rw [if_neg c]
    have c' : ¬ (hi hc 2 14).toInt < (8 : Int32).toInt := fun z => c (Int32.lt_iff_toInt_lt.mpr z)
    rw [Option.bind_assoc]
    have S1 := S.1
    rw [fz] at S1
    refine Pc.bind (pc_stop S1) (fun q6 h6 => ?_)
    have S6 := h6.2
    rw [if_pos rfl, f2] at S6
    have z2 : (2 : Int) ≠ 0 := by decide
    have c6 : cQ q6 (fuE st) := ⟨S6, fun z => absurd z z2⟩
    generalize eg : wrI q6 2 14 (hi q6 2 14 + 1) = g
    have tg : tkK hc g := by rw [← eg]; exact h6.1.tk.tr (tkK.w (by decide) (by decide) (by decide))
    have Sg : cQ g (fuE st) := by rw [← eg]; exact c6.w (by decide)
    refine Pc.bind (go g (fuE st) T tg Sg) (fun q hq => ?_)
    obtain ⟨a1, a2, a3, a4, a5, -⟩ := hq
    refine Pc.bind (cq_take X (C.cg a1) a5 a4 59 lit_59) (fun r hr' => Pc.ret ⟨a1.tr hr'.1.tk, Or.inr ⟨by omega, ?_⟩⟩)
    have e : tkQ kd 59 (nbQ kd pl vl 0 4 (nbQ kd pl vl 0 4 (tkQ kd 12 (fuE st)))) = fuE st := by
      have ff : (fuE st).1 ≠ 0 := z2
      rw [tq_f (k := 12) ff, nq_f ff, nq_f ff, tq_f ff]
    rw [← e]
    exact hr'.2.1
/-- room for one more: the reference -/
theorem rq_room (X : TX N kd pl vl) (R : RT N kd pl vl h) (T : tI2 N st.2.1) (S : rQ pl h st) (fz : st.1 = 0) {x1 x2 : Int32} (k : Int) (hk : kd st.2.1 = k) (k2 : k ≠ 32) : Pc (F_X12_roomFor n h x1 x2) (fun q => frQ h q ∧ ((x1.toInt ≠ x2.toInt ∧ rQ pl q (tkQ kd k st)) ∨ (x1.toInt = x2.toInt ∧ rQ pl q (fuE st)))) := by
  have f0 := lit_0
  have f2 := lit_2
  have z2 : (2 : Int) ≠ 0 := by decide
  unfold F_X12_roomFor
  refine Pc.eq (fun c => ?_) (fun c => ?_)
  · have S1 := S.1
    rw [fz] at S1
    refine Pc.bind (pr_fail R T S1 (by decide)) (fun q hq => ?_)
    have Sq := hq.2
    rw [if_pos rfl, f2] at Sq
    have g1 := Sq.2.1
    exact Pc.eq (fun c2 => by exfalso; omega) (fun _ => Pc.ret ⟨hq.1, Or.inr ⟨c, Sq, fun z => absurd z z2⟩⟩)
  · refine Pc.eq (fun _ => ?_) (fun c2 => by have := S.1.2.1; exfalso; omega)
    exact Pc.bind (rq_goesOn X R T S fz k hk k2) (fun q hq => Pc.ret ⟨hq.1, Or.inl ⟨c, hq.2⟩⟩)
def rrP (kd pl vl : Nat → Int) (s : Nat) (st : Int × Nat × Int × Int) (h q : Hp) : Prop := fT h q ∧ (((hi h 245 s).toInt ≠ 8 ∧ ((∀ a k, ((235 ≤ a ∧ a ≤ 244) ∨ (a = 226 ∧ (k = 12 ∨ k = 20))) → hi q a k = hi h a k) ∧ ∀ k, hl q 234 k = hl h 234 k) ∧ rQ pl q (rpE kd pl vl st) ∧ ((rpE kd pl vl st).1 = 0 → hi q 245 s = hi h 245 s + 1 ∧ (∀ k : Nat, (k : Int) < (hi h 245 s).toInt → hi q 246 (8 * s + k) = hi h 246 (8 * s + k) ∧ hi q 247 (8 * s + k) = hi h 247 (8 * s + k)) ∧ ∀ k : Nat, (k : Int) = (hi h 245 s).toInt → (hi q 246 (8 * s + k)).toInt = vl (st.2.1 + 1) ∧ (hi q 247 (8 * s + k)).toInt = vl (st.2.1 + 2))) ∨ ((hi h 245 s).toInt = 8 ∧ rQ pl q (fuE st)))
def rrQ (kd pl vl : Nat → Int) (s : Nat) (st : Int × Nat × Int × Int) (h q : Hp) : Prop := fT h q ∧ ((∀ a k, ((235 ≤ a ∧ a ≤ 244) ∨ (a = 226 ∧ (k = 12 ∨ k = 20))) → hi q a k = hi h a k) ∧ ∀ k, hl q 234 k = hl h 234 k) ∧ rQ pl q (rpE kd pl vl st) ∧ ((rpE kd pl vl st).1 = 0 → hi q 245 s = hi h 245 s + 1 ∧ (∀ k : Nat, (k : Int) < (hi h 245 s).toInt → hi q 246 (8 * s + k) = hi h 246 (8 * s + k) ∧ hi q 247 (8 * s + k) = hi h 247 (8 * s + k)) ∧ ∀ k : Nat, (k : Int) = (hi h 245 s).toInt → (hi q 246 (8 * s + k)).toInt = vl (st.2.1 + 1) ∧ (hi q 247 (8 * s + k)).toInt = vl (st.2.1 + 2))
set_option maxHeartbeats 4000000 in
theorem rq_rope (X : TX N kd pl vl) (hs : s ≤ 1) (R : RT N kd pl vl hr) (T : tI2 N st.2.1) (S : rQ pl hr st) (fz : st.1 = 0) (hk : kd st.2.1 = 12) (sd : (hi hr 226 19).toInt = (s : Int)) (c0 : 0 ≤ (hi hr 245 s).toInt) (c8 : (hi hr 245 s).toInt ≤ 8) : Pc (if ixOK (hi hr 226 19) 2 = true then ((F_X12_roomFor n hr (hi hr 245 (Int32.toNatClampNeg (hi hr 226 19))) 8).bind (fun q29 => (if ((hi q29 226 13) : Int32) = 0 then ((F_X12_tellRope n q29).bind (fun q32 => some q32)) else some q29))) else none) (rrP kd pl vl s st hr) := by
  have f0 := lit_0
  have f4 := lit_4
  have f8 := lit_8
  have f1 := lit_1
  have ns := ncT (show 0 ≤ (hi hr 226 19).toInt by omega)
  have es : Int32.toNatClampNeg (hi hr 226 19) = s := by omega
  refine Pc.chk (fun _ => ?_)
  rw [es]
  refine Pc.bind (rq_room X R T S fz 12 hk (by decide)) (fun q1 h1 => ?_)
  obtain ⟨fr, alt⟩ := h1
  rcases alt with ⟨n8, Sq⟩ | ⟨e8, Sq⟩
  · rw [f8] at n8
    have T1 := tq_in X T (k := 12) (by decide)
    by_cases zf : (tkQ kd 12 st).1 = 0
    · have g1 := Sq.1.2.1
      rw [zf] at g1
      refine Pc.eq (fun _ => ?_) (fun c => by exfalso; omega)
      have e19 : hi q1 226 19 = hi hr 226 19 := fr.1 226 19 (by decide)
      have e45 : hi q1 245 s = hi hr 245 s := fr.1 245 s (by omega)
      unfold F_X12_tellRope
      rw [e19, es, e45]
      have m1 := mlT 8 (hi hr 226 19) 8 lit_8 (by omega) (by omega)
      have a1 := adT (8 * hi hr 226 19) (hi hr 245 s) (by omega) (by omega)
      have nk := ncT (show 0 ≤ (8 * hi hr 226 19 + hi hr 245 s).toInt by omega)
      generalize ek : Int32.toNatClampNeg (8 * hi hr 226 19 + hi hr 245 s) = k at nk
      refine Pc.bind (Q := rrQ kd pl vl s st hr) ?_ (fun q32 h32 => Pc.ret ?_)
      · refine Pc.chk (fun _ => ?_)
        refine Pc.bind (rq_number X (R.cg fr.rt) T1 Sq) (fun q2 h2 => ?_)
        rw [f0, f4] at h2
        have T2 := nb_in X T1 (lo := 0) (up := 4)
        refine Pc.chk (fun _ => ?_)
        generalize eg : wrI q2.2 246 k q2.1 = g
        have ft1 : fT hr g := by rw [← eg]; exact (fr.t.tr h2.1.t).tr (fT.w (by decide))
        have rg : rQ pl g (nbQ kd pl vl 0 4 (tkQ kd 12 st)) := by rw [← eg]; exact h2.2.1.w (by decide)
        refine Pc.bind (rq_number X (R.cg ft1.1) T2 rg) (fun q5 h5 => ?_)
        rw [f0, f4] at h5
        have T3 := nb_in X T2 (lo := 0) (up := 4)
        refine Pc.chk (fun _ => ?_)
        generalize ev : wrI q5.2 247 k q5.1 = v
        have ft2 : fT hr v := by rw [← ev]; exact (ft1.tr h5.1.t).tr (fT.w (by decide))
        have rv : rQ pl v (nbQ kd pl vl 0 4 (nbQ kd pl vl 0 4 (tkQ kd 12 st))) := by rw [← ev]; exact h5.2.1.w (by decide)
        refine Pc.bind (rq_must X (R.cg ft2.1) T3 rv 59 (by decide) (by decide) (by decide)) (fun q8 h8 => ?_)
        have ft3 := ft2.tr h8.1.t
        have r8 (a z : Nat) (n1 : ¬ ((a = 246 ∨ a = 247) ∧ z = k)) (n2 : ¬ (a = 226 ∧ (z = 11 ∨ z = 13 ∨ z = 14 ∨ z = 15 ∨ z = 16))) : hi q8 a z = hi hr a z := by
          rw [h8.1.1 a z (by omega), ← ev, hi_wrI, if_neg (by omega), h5.1.1 a z n2, ← eg, hi_wrI, if_neg (by omega), h2.1.1 a z n2, fr.1 a z (by omega)]
        have l8 (a z : Nat) : hl q8 a z = hl hr a z := by
          rw [h8.1.2, ← ev, hl_wrI, h5.1.2, ← eg, hl_wrI, h2.1.2, fr.2]
        have e46 : hi q8 246 k = q2.1 := by rw [h8.1.1 246 k (by omega), ← ev, hi_wrI, if_neg (by omega), h5.1.1 246 k (by omega)]; exact hiE eg
        have e47 : hi q8 247 k = q5.1 := by rw [h8.1.1 247 k (by omega)]; exact hiE ev
        have s8 := h8.2.1.2.1
        refine Pc.eq (fun c => ?_) (fun c => Pc.ret ⟨ft3, ⟨fun a z n1 => r8 a z (by omega) (by omega), fun z => l8 234 z⟩, h8.2, fun z => ?_⟩)
        · have e19' : hi q8 226 19 = hi hr 226 19 := r8 226 19 (by omega) (by omega)
          have e45' : hi q8 245 s = hi hr 245 s := r8 245 s (by omega) (by omega)
          rw [e19', es, e45']
          refine Pc.chk (fun _ => Pc.chk (fun _ => Pc.ret ⟨ft3.tr (fT.w (by decide)), ⟨fun a z n1 => ?_, fun z => ?_⟩, h8.2.w (by decide), fun z => ⟨?_, fun i il => ⟨?_, ?_⟩, fun i il => ?_⟩⟩))
          · rw [hi_wrI, if_neg (by omega)]; exact r8 a z (by omega) (by omega)
          · rw [hl_wrI]; exact l8 234 z
          · rw [hi_wrI, if_pos ⟨rfl, rfl⟩]
          · rw [hi_wrI, if_neg (by omega)]; exact r8 246 _ (by omega) (by omega)
          · rw [hi_wrI, if_neg (by omega)]; exact r8 247 _ (by omega) (by omega)
          · have z1 := (tq_0 z).1
            have e2 := (nq_0 (nq_0 z1).1).2.2
            have e1 := (tq_0 (nq_0 (nq_0 z1).1).1).2.2
            have ik : 8 * s + i = k := by omega
            rw [hi_wrI, if_neg (by omega), hi_wrI, if_neg (by omega), ik, e46, e47, h2.2.2 (nq_0 z1).1, h5.2.2 z1, e2, e1]
            exact ⟨rfl, rfl⟩
        · exfalso
          have z' : (hi q8 226 13).toInt = (rpE kd pl vl st).1 := s8
          omega
      · exact ⟨h32.1, Or.inl ⟨n8, h32.2⟩⟩
    · have g1 := Sq.1.2.1
      refine Pc.eq (fun c => by exfalso; omega) (fun _ => Pc.ret ⟨fr.t, Or.inl ⟨n8, ⟨fun a k n1 => fr.1 a k (by omega), fun k => fr.2 234 k⟩, ?_, fun z => ?_⟩⟩)
      · unfold rpE
        rw [nq_f zf, nq_f zf, tq_f zf]
        exact Sq
      · exfalso
        unfold rpE at z
        rw [nq_f zf, nq_f zf, tq_f zf] at z
        exact zf z
  · have g1 := Sq.1.2.1
    have z2 : (fuE st).1 = 2 := rfl
    refine Pc.eq (fun c => by exfalso; omega) (fun _ => Pc.ret ⟨fr.t, Or.inr ⟨by omega, Sq⟩⟩)
theorem j_rope (X : TX N kd pl vl) (j : JA N kd pl vl nm s hc hr st) (fz : st.1 = 0) {qc qr : Hp} (a : crP kd pl vl st hc qc) (b : rrP kd pl vl s st hr qr) : JA N kd pl vl nm s qc qr (rpE kd pl vl st) ∨ JA N kd pl vl nm s qc qr (fuE st) := by
  obtain ⟨j1, j2, j3, j4⟩ := j.2.2.2.2 fz
  obtain ⟨⟨n1, n2, n3⟩, ⟨m1, m2, m3⟩, ⟨o1, o2, o3⟩, p1⟩ := id j2
  obtain ⟨a1, a2⟩ := a
  obtain ⟨b1, b2⟩ := b
  rcases a2 with ⟨a3, ⟨a4, a5⟩, a6, a7, a8⟩ | ⟨a3, a4⟩
  · rcases b2 with ⟨b3, ⟨b4, b5⟩, b6, b7⟩ | ⟨b3, -⟩
    · refine Or.inl ⟨j.ctx a1 b1, tq_in X (nb_in X (nb_in X (tq_in X j.2.1 (by decide)))) (by decide), a7, b6, fun z => ?_⟩
      obtain ⟨c1, c2, c3⟩ := b7 z
      have f1 := lit_1
      have ad1 := adT (hi hr 245 s) 1 (by omega) (by omega)
      have ad2 := adT (hi hc 2 14) 1 (by omega) (by omega)
      have r (x : Nat) (n : 235 ≤ x ∧ x ≤ 244) : hi qr x = hi hr x := funext fun k => b4 x k (by omega)
      have c (x : Nat) (n : x = 4 ∨ x = 15 ∨ x = 16) : hi qc x = hi hc x := funext fun k => a4 x k (by omega)
      refine ⟨by rw [b4 226 12 (by decide)]; exact j1, ?_, ?_, fun w => ?_⟩
      · unfold CN
        rw [a4 2 13 (by decide), a4 3 2 (by decide), a6, r 237 (by decide), r 242 (by decide), c1, b4 226 20 (by decide)]
        exact ⟨⟨n1, n2, n3⟩, ⟨m1, m2, m3⟩, ⟨by omega, by omega, by omega⟩, p1⟩
      · obtain ⟨tau, ht⟩ := j3
        refine ⟨tau, fun g hg => ?_⟩
        rw [r 242 (by decide)] at hg
        rw [a5 g, b5 g]
        exact ht g hg
      · have z1 := (tq_0 z).1
        have t2 := two_w z1 w
        have e1 := (tq_0 (nq_0 (nq_0 z1).1).1).2.2
        have w0 : st.2.2.1 = 0 := t2.1
        obtain ⟨d1, d2, ⟨d3, d4⟩, d5⟩ := j4 w0
        obtain ⟨y, y1, y2, y3⟩ := a8 z w
        have v1 := t2.2.1
        have v2 := t2.2.2
        rw [e1] at v1 v2
        obtain ⟨cc, hcc⟩ : ∃ cc : Nat, (hi hr 245 s).toInt = (cc : Int) := ⟨(hi hr 245 s).toInt.toNat, by omega⟩
        have k3 := c3 cc hcc.symm
        refine ⟨?_, ?_, ⟨fun e he => ?_, fun k hk => ?_⟩, ?_⟩
        · rw [c 4 (by decide), r 235 (by decide), r 236 (by decide)]; exact d1
        · rw [c 16 (by decide), r 237 (by decide), r 238 (by decide), r 239 (by decide)]; exact d2
        · obtain ⟨yn, hyn⟩ : ∃ yn : Nat, y.toInt = (yn : Int) := ⟨y.toInt.toNat, by omega⟩
          rw [y3, or_bit _ y yn (by omega) hyn e he, d3 e he, c1]
          constructor
          · intro q
            rcases q with ⟨k, k1, k2⟩ | q
            · exact ⟨k, by omega, by rw [(c2 k k1).1, (c2 k k1).2]; exact k2⟩
            · refine ⟨cc, by omega, ?_⟩
              rw [k3.1, k3.2]
              omega
          · intro ⟨k, k1, k2⟩
            by_cases q : (k : Int) < (hi hr 245 s).toInt
            · refine Or.inl ⟨k, q, ?_⟩
              rw [(c2 k q).1, (c2 k q).2] at k2
              exact k2
            · have : k = cc := by omega
              subst this
              rw [k3.1, k3.2] at k2
              exact Or.inr (by omega)
        · rw [c1] at hk
          by_cases q : (k : Int) < (hi hr 245 s).toInt
          · rw [(c2 k q).1, (c2 k q).2]
            exact d4 k q
          · have : k = cc := by omega
            subst this
            unfold sp4
            rw [k3.1, k3.2]
            have v2' : 0 ≤ vl (st.2.1 + 2) ∧ vl (st.2.1 + 2) ≤ 4 := v2
            exact ⟨v1, v2'⟩
        · rw [c 15 (by decide), r 242 (by decide), r 243 (by decide), r 244 (by decide)]
          exact d5
    · exfalso; omega
  · rcases b2 with ⟨b3, -⟩ | ⟨b3, b4⟩
    · exfalso; omega
    · exact Or.inr ⟨j.ctx a1 b1, j.2.1, a4, b4, fun z => absurd z (show ¬ (2 : Int) = 0 by decide)⟩
end RO
end
section
/-! TUNE of both -/
section TU
variable {N : Nat} {kd pl vl nm : Nat → Int} {s : Nat} {hc hr h : Hp} {st : Int × Nat × Int × Int} {n : Nat}
/-- a tune, up to its OFFSET's bound -/
def tuE (kd pl vl : Nat → Int) (up : Int) (st : Int × Nat × Int × Int) : Int × Nat × Int × Int := tkQ kd 59 (nbQ kd pl vl 0 up (nbQ kd pl vl 2 6 (nbQ kd pl vl 0 4 (nbQ kd pl vl 0 4 (tkQ kd 10 st)))))
theorem nq_up {lo up up' : Int} (h : st.1 = 0 → st.2.2.1 = 0 → up = up') : nbQ kd pl vl lo up st = nbQ kd pl vl lo up' st := by
  by_cases a : st.1 = 0
  · by_cases b : st.2.2.1 = 0
    · rw [h a b]
    · unfold nbQ
      rw [if_neg (fun z => b z.2.2), if_neg (fun z => b z.2.2)]
  · rw [nq_f a, nq_f a]
/-- none due behind the BEAT: three numbers are what the text says -/
theorem three_w (z : (nbQ kd pl vl 2 6 (nbQ kd pl vl 0 4 (nbQ kd pl vl 0 4 st))).1 = 0) (w : (nbQ kd pl vl 2 6 (nbQ kd pl vl 0 4 (nbQ kd pl vl 0 4 st))).2.2.1 = 0) : st.1 = 0 ∧ st.2.2.1 = 0 ∧ (0 ≤ vl st.2.1 ∧ vl st.2.1 ≤ 4) ∧ (0 ≤ vl (st.2.1 + 1) ∧ vl (st.2.1 + 1) ≤ 4) ∧ (2 ≤ vl (st.2.1 + 2) ∧ vl (st.2.1 + 2) ≤ 6) ∧ (nbQ kd pl vl 0 4 (nbQ kd pl vl 0 4 st)).2.1 = st.2.1 + 2 := by
  have z1 := nq_0 z
  have w1 := nq_w z w
  have t2 := two_w z1.1 w1.1
  have e2 := (nq_0 z1.1).2.2
  have e1 := (nq_0 (nq_0 z1.1).1).2.2
  have e : (nbQ kd pl vl 0 4 (nbQ kd pl vl 0 4 st)).2.1 = st.2.1 + 2 := by rw [e2, e1]
  rw [e] at w1
  exact ⟨(nq_0 (nq_0 z1.1).1).1, t2.1, t2.2.1, t2.2.2, w1.2, e⟩
def ctP (kd pl vl : Nat → Int) (st : Int × Nat × Int × Int) (h q : Hp) : Prop := tkK h q ∧ (((hi h 2 13).toInt < 8 ∧ ((∀ a k, ((a = 2 ∧ (k = 12 ∨ k = 14)) ∨ (a = 3 ∧ k = 2) ∨ a = 4 ∨ a = 15) → hi q a k = hi h a k) ∧ ∀ k, hl q 14 k = hl h 14 k) ∧ hi q 2 13 = hi h 2 13 + 1 ∧ ∃ up : Int, cQ q (tuE kd pl vl up st) ∧ ((nbQ kd pl vl 2 6 (nbQ kd pl vl 0 4 (nbQ kd pl vl 0 4 (tkQ kd 10 st)))).1 = 0 → (nbQ kd pl vl 2 6 (nbQ kd pl vl 0 4 (nbQ kd pl vl 0 4 (tkQ kd 10 st)))).2.2.1 = 0 → up = vl (st.2.1 + 3) - 1 ∧ ∃ y : Nat, (y : Int) = vl (st.2.1 + 1) + 5 * vl (st.2.1 + 2) ∧ (0 < (hi q 16 y).toInt) ∧ ∀ c, c ≠ y → hi q 16 c = hi h 16 c)) ∨ (8 ≤ (hi h 2 13).toInt ∧ cQ q (fuE st)))
set_option maxHeartbeats 4000000 in
theorem cq_tune (X : TX N kd pl vl) (C : CT N kd pl vl hc) (T : tI2 N st.2.1) (S : cQ hc st) (fz : st.1 = 0) : Pc ((F_X7_readTune n hc).bind (fun q2 => ((F_X7_take n q2 59).bind (fun q4 => some q4.2)))) (ctP kd pl vl st hc) := by
  have f0 := lit_0
  have f1 := lit_1
  have f2 := lit_2
  have f6 := lit_6
  have f8 := lit_8
  have f25 := lit_25
  have go (g : Hp) (s' : Int × Nat × Int × Int) (Tg : tI2 N s'.2.1) (tg : tkK hc g) (Sg : cQ g s') : Pc (((F_X7_take n g 10).bind (fun q2 => ((F_X7_takeSpot n q2.2).bind (fun q4 => ((F_X7_takeNumber n q4.2 2 6).bind (fun q6 => ((F_X7_takeNumber n q6.2 0 (q6.1 - 1)).bind (fun q8 => (if (q4.1 : Int32) < (0 : Int32) then some q8.2 else (if (25 : Int32) ≤ (q4.1 : Int32) then some q8.2 else (if ixOK q4.1 25 = true then (if ixOK q4.1 25 = true then some (wrI (wrI q8.2 16 (Int32.toNatClampNeg q4.1) q6.1) 17 (Int32.toNatClampNeg q4.1) q8.1) else none) else none))))))))))))  (fun q => tkK hc q ∧ (∀ a k, ¬ (a = 2 ∧ (k = 4 ∨ k = 5 ∨ k = 6 ∨ k = 7)) → a ≠ 16 → a ≠ 17 → hi q a k = hi g a k) ∧ (∀ a k, hl q a k = hl g a k) ∧ ∃ up : Int, cQ q (nbQ kd pl vl 0 up (nbQ kd pl vl 2 6 (nbQ kd pl vl 0 4 (nbQ kd pl vl 0 4 (tkQ kd 10 s'))))) ∧ tI2 N (nbQ kd pl vl 0 up (nbQ kd pl vl 2 6 (nbQ kd pl vl 0 4 (nbQ kd pl vl 0 4 (tkQ kd 10 s'))))).2.1 ∧ ((nbQ kd pl vl 2 6 (nbQ kd pl vl 0 4 (nbQ kd pl vl 0 4 (tkQ kd 10 s')))).1 = 0 → (nbQ kd pl vl 2 6 (nbQ kd pl vl 0 4 (nbQ kd pl vl 0 4 (tkQ kd 10 s')))).2.2.1 = 0 → up = vl ((tkQ kd 10 s').2.1 + 2) - 1 ∧ ∃ y : Nat, (y : Int) = vl (tkQ kd 10 s').2.1 + 5 * vl ((tkQ kd 10 s').2.1 + 1) ∧ (0 < (hi q 16 y).toInt) ∧ ∀ c, c ≠ y → hi q 16 c = hi g 16 c)) := by
    refine Pc.bind (cq_take X (C.cg tg) Tg Sg 10 lit_10) (fun q2 h2 => ?_)
    have T1 := tq_in X Tg (k := 10) (by decide)
    have tk2 := tg.tr h2.1.tk
    refine Pc.bind (cq_spot X (C.cg tk2) T1 h2.2.1) (fun q4 h4 => ?_)
    have T3 := nb_in X (nb_in X T1 (lo := 0) (up := 4)) (lo := 0) (up := 4)
    have tk4 := tk2.tr h4.1.tk
    refine Pc.bind (cq_number X (C.cg tk4) T3 h4.2.1 (by decide)) (fun q6 h6 => ?_)
    rw [f2, f6] at h6
    have T4 := nb_in X T3 (lo := 2) (up := 6)
    have tk6 := tk4.tr h6.1.tk
    have b6 := h6.2.2.1
    generalize eu : (q6.1 - 1 : Int32) = u
    have fu := sbG eu rfl lit_1 (by omega) (by omega)
    refine Pc.bind (cq_number X (C.cg tk6) T4 h6.2.1 (by omega)) (fun q8 h8 => ?_)
    rw [f0] at h8
    have T5 := nb_in X T4 (lo := 0) (up := u.toInt)
    have b4 := h4.2.2.1
    refine Pc.lt (fun c => by exfalso; omega) (fun _ => Pc.le (fun c => by exfalso; omega) (fun _ => Pc.chk (fun _ => Pc.chk (fun _ => Pc.ret ?_))))
    have ny := ncT b4.1
    refine ⟨(((tk6.tr h8.1.tk).tr (tkK.w (by decide) (by decide) (by decide))).tr (tkK.w (by decide) (by decide) (by decide))), fun a k n1 n2 n3 => ?_, fun a k => ?_, u.toInt, (h8.2.1.w (by omega)).w (by omega), T5, fun z w => ⟨?_, Int32.toNatClampNeg q4.1, ?_, ?_, fun c hc' => ?_⟩⟩
    · rw [hi_wrI, if_neg (by omega), hi_wrI, if_neg (by omega), h8.1.1 a k (by omega), h6.1.1 a k (by omega), h4.1.1 a k (by omega), h2.1.1 a k (by omega)]
    · rw [hl_wrI, hl_wrI, h8.1.2, h6.1.2, h4.1.2, h2.1.2]
    · have t3 := three_w z w
      have e6 := h6.2.2.2 z (by rw [t3.2.2.2.2.2]; exact t3.2.2.2.2.1.1) (by rw [t3.2.2.2.2.2]; exact t3.2.2.2.2.1.2)
      rw [t3.2.2.2.2.2] at e6
      omega
    · have z1 := nq_0 z
      have w1 := nq_w z w
      rw [ny]
      exact h4.2.2.2 z1.1 w1.1
    · rw [hi_wrI, if_neg (by omega), hi_wrI, if_pos ⟨rfl, rfl⟩]
      omega
    · rw [hi_wrI, if_neg (by omega), hi_wrI, if_neg (by omega), h8.1.1 16 c (by omega), h6.1.1 16 c (by omega), h4.1.1 16 c (by omega), h2.1.1 16 c (by omega)]
  unfold F_X7_readTune
  by_cases c : (hi hc 2 13) < (8 : Int32)
  · rw [if_pos c]
    have c' := Int32.lt_iff_toInt_lt.mp c
    generalize eg : wrI hc 2 13 (hi hc 2 13 + 1) = g
    have tg : tkK hc g := by rw [← eg]; exact tkK.w (by decide) (by decide) (by decide)
    have Sg : cQ g st := by rw [← eg]; exact S.w (by decide)
    refine Pc.bind (go g st T tg Sg) (fun q hq => ?_)
    obtain ⟨a1, a2, a3, up, a4, a5, a6⟩ := hq
    refine Pc.bind (cq_take X (C.cg a1) a5 a4 59 lit_59) (fun r hr' => Pc.ret ⟨a1.tr hr'.1.tk, Or.inl ⟨by omega, ⟨fun a k n1 => ?_, fun k => ?_⟩, ?_, up, hr'.2.1, fun z w => ?_⟩⟩)
    · rw [hr'.1.1 a k (by omega), a2 a k (by omega) (by omega) (by omega), ← eg, hi_wrI, if_neg (by omega)]
    · rw [hr'.1.2, a3, ← eg, hl_wrI]
    · rw [hr'.1.1 2 13 (by decide), a2 2 13 (by decide) (by decide) (by decide), hiE eg]
    · have t3 := three_w z w
      have e1 := (tq_0 t3.1).2.2
      obtain ⟨u1, y, y1, y2, y3⟩ := a6 z w
      rw [e1] at u1 y1
      refine ⟨u1, y, y1, ?_, fun c hc' => ?_⟩
      · rw [hr'.1.1 16 y (by omega)]; exact y2
      · rw [hr'.1.1 16 c (by omega), y3 c hc', ← eg, hi_wrI, if_neg (by omega)]
  · rw [if_neg c]
    have c' : ¬ (hi hc 2 13).toInt < (8 : Int32).toInt := fun z => c (Int32.lt_iff_toInt_lt.mpr z)
    rw [Option.bind_assoc]
    have S1 := S.1
    rw [fz] at S1
    refine Pc.bind (pc_stop S1) (fun q6 h6 => ?_)
    have S6 := h6.2
    rw [if_pos rfl, f2] at S6
    have z2 : (2 : Int) ≠ 0 := by decide
    have c6 : cQ q6 (fuE st) := ⟨S6, fun z => absurd z z2⟩
    generalize eg : wrI q6 2 13 (hi q6 2 13 + 1) = g
    have tg : tkK hc g := by rw [← eg]; exact h6.1.tk.tr (tkK.w (by decide) (by decide) (by decide))
    have Sg : cQ g (fuE st) := by rw [← eg]; exact c6.w (by decide)
    refine Pc.bind (go g (fuE st) T tg Sg) (fun q hq => ?_)
    obtain ⟨a1, a2, a3, up, a4, a5, -⟩ := hq
    refine Pc.bind (cq_take X (C.cg a1) a5 a4 59 lit_59) (fun r hr' => Pc.ret ⟨a1.tr hr'.1.tk, Or.inr ⟨by omega, ?_⟩⟩)
    have e : tkQ kd 59 (nbQ kd pl vl 0 up (nbQ kd pl vl 2 6 (nbQ kd pl vl 0 4 (nbQ kd pl vl 0 4 (tkQ kd 10 (fuE st)))))) = fuE st := by
      have ff : (fuE st).1 ≠ 0 := z2
      rw [tq_f (k := 10) ff, nq_f ff, nq_f ff, nq_f ff, nq_f ff, tq_f ff]
    rw [← e]
    exact hr'.2.1
def rtP (kd pl vl : Nat → Int) (s : Nat) (st : Int × Nat × Int × Int) (h q : Hp) : Prop := fT h q ∧ ((∀ a k, (a = 235 ∨ a = 236 ∨ (242 ≤ a ∧ a ≤ 247) ∨ (a = 226 ∧ (k = 12 ∨ k = 20))) → hi q a k = hi h a k) ∧ ∀ k, hl q 234 k = hl h 234 k) ∧ ∃ up : Int, rQ pl q (tuE kd pl vl up st) ∧ ((nbQ kd pl vl 2 6 (nbQ kd pl vl 0 4 (nbQ kd pl vl 0 4 (tkQ kd 10 st)))).1 = 0 → (nbQ kd pl vl 2 6 (nbQ kd pl vl 0 4 (nbQ kd pl vl 0 4 (tkQ kd 10 st)))).2.2.1 = 0 → up = vl (st.2.1 + 3) - 1) ∧ ((tuE kd pl vl up st).1 = 0 → hi q 237 s = hi h 237 s + 1 ∧ (∀ k : Nat, (k : Int) < (hi h 237 s).toInt → hi q 238 (8 * s + k) = hi h 238 (8 * s + k) ∧ hi q 239 (8 * s + k) = hi h 239 (8 * s + k)) ∧ ∀ k : Nat, (k : Int) = (hi h 237 s).toInt → (hi q 238 (8 * s + k)).toInt = vl (st.2.1 + 1) ∧ (hi q 239 (8 * s + k)).toInt = vl (st.2.1 + 2))
set_option maxHeartbeats 4000000 in
theorem rq_tune (X : TX N kd pl vl) (hs : s ≤ 1) (R : RT N kd pl vl hr) (T : tI2 N st.2.1) (S : rQ pl hr st) (fz : st.1 = 0) (hk : kd st.2.1 = 10) (sd : (hi hr 226 19).toInt = (s : Int)) (c0 : 0 ≤ (hi hr 237 s).toInt) (c8 : (hi hr 237 s).toInt ≤ 8) : Pc (if ixOK (hi hr 226 19) 2 = true then ((F_X12_roomFor n hr (hi hr 237 (Int32.toNatClampNeg (hi hr 226 19))) 8).bind (fun q29 => (if ((hi q29 226 13) : Int32) = 0 then ((F_X12_tellTune n q29).bind (fun q32 => some q32)) else some q29))) else none) (fun q => fT hr q ∧ (((hi hr 237 s).toInt ≠ 8 ∧ rtP kd pl vl s st hr q) ∨ ((hi hr 237 s).toInt = 8 ∧ rQ pl q (fuE st)))) := by
  have f0 := lit_0
  have f1 := lit_1
  have f2 := lit_2
  have f4 := lit_4
  have f5 := lit_5
  have f6 := lit_6
  have f8 := lit_8
  have ns := ncT (show 0 ≤ (hi hr 226 19).toInt by omega)
  have es : Int32.toNatClampNeg (hi hr 226 19) = s := by omega
  refine Pc.chk (fun _ => ?_)
  rw [es]
  refine Pc.bind (rq_room X R T S fz 10 hk (by decide)) (fun q1 h1 => ?_)
  obtain ⟨fr, alt⟩ := h1
  rcases alt with ⟨n8, Sq⟩ | ⟨e8, Sq⟩
  · rw [f8] at n8
    have T1 := tq_in X T (k := 10) (by decide)
    by_cases zf : (tkQ kd 10 st).1 = 0
    · have g1 := Sq.1.2.1
      rw [zf] at g1
      refine Pc.eq (fun _ => ?_) (fun c => by exfalso; omega)
      have e19 : hi q1 226 19 = hi hr 226 19 := fr.1 226 19 (by decide)
      have e37 : hi q1 237 s = hi hr 237 s := fr.1 237 s (by omega)
      have e1 := (tq_0 zf).2.2
      unfold F_X12_tellTune
      rw [e19, es, e37]
      have m1 := mlT 8 (hi hr 226 19) 8 lit_8 (by omega) (by omega)
      have a1 := adT (8 * hi hr 226 19) (hi hr 237 s) (by omega) (by omega)
      have nk := ncT (show 0 ≤ (8 * hi hr 226 19 + hi hr 237 s).toInt by omega)
      generalize ek : Int32.toNatClampNeg (8 * hi hr 226 19 + hi hr 237 s) = k at nk
      refine Pc.bind (Q := rtP kd pl vl s st hr) ?_ (fun q32 h32 => Pc.ret ⟨h32.1, Or.inl ⟨n8, h32⟩⟩)
      refine Pc.chk (fun _ => ?_)
      refine Pc.bind (rq_number X (R.cg fr.rt) T1 Sq) (fun q2 h2 => ?_)
      rw [f0, f4] at h2
      have T2 := nb_in X T1 (lo := 0) (up := 4)
      refine Pc.chk (fun _ => ?_)
      generalize eg : wrI q2.2 238 k q2.1 = g
      have ft1 : fT hr g := by rw [← eg]; exact (fr.t.tr h2.1.t).tr (fT.w (by decide))
      have rg : rQ pl g (nbQ kd pl vl 0 4 (tkQ kd 10 st)) := by rw [← eg]; exact h2.2.1.w (by decide)
      refine Pc.bind (rq_number X (R.cg ft1.1) T2 rg) (fun q5 h5 => ?_)
      rw [f0, f4] at h5
      have T3 := nb_in X T2 (lo := 0) (up := 4)
      refine Pc.chk (fun _ => ?_)
      generalize ev : wrI q5.2 239 k q5.1 = v
      have ft2 : fT hr v := by rw [← ev]; exact (ft1.tr h5.1.t).tr (fT.w (by decide))
      have rv : rQ pl v (nbQ kd pl vl 0 4 (nbQ kd pl vl 0 4 (tkQ kd 10 st))) := by rw [← ev]; exact h5.2.1.w (by decide)
      refine Pc.bind (rq_number X (R.cg ft2.1) T3 rv) (fun q8 h8 => ?_)
      rw [f2, f6] at h8
      have T4 := nb_in X T3 (lo := 2) (up := 6)
      refine Pc.chk (fun _ => Pc.chk (fun _ => ?_))
      generalize ex : wrI q8.2 240 k q8.1 = x
      have ft3 : fT hr x := by rw [← ex]; exact (ft2.tr h8.1.t).tr (fT.w (by decide))
      have rx : rQ pl x (nbQ kd pl vl 2 6 (nbQ kd pl vl 0 4 (nbQ kd pl vl 0 4 (tkQ kd 10 st)))) := by rw [← ex]; exact h8.2.1.w (by decide)
      have e40 : hi x 240 k = q8.1 := hiE ex
      rw [e40]
      have beat : (nbQ kd pl vl 2 6 (nbQ kd pl vl 0 4 (nbQ kd pl vl 0 4 (tkQ kd 10 st)))).1 = 0 → (nbQ kd pl vl 2 6 (nbQ kd pl vl 0 4 (nbQ kd pl vl 0 4 (tkQ kd 10 st)))).2.2.1 = 0 → q8.1.toInt = vl (st.2.1 + 3) ∧ 2 ≤ q8.1.toInt ∧ q8.1.toInt ≤ 6 := by
        intro z w
        have t3 := three_w z w
        have y := h8.2.2 z
        rw [t3.2.2.2.2.2, e1] at y
        have b := t3.2.2.2.2.1
        rw [e1] at b
        exact ⟨y, by rw [y]; exact b.1, by rw [y]; exact b.2⟩
      have fin (u : Int32) (hu : (nbQ kd pl vl 2 6 (nbQ kd pl vl 0 4 (nbQ kd pl vl 0 4 (tkQ kd 10 st)))).1 = 0 → (nbQ kd pl vl 2 6 (nbQ kd pl vl 0 4 (nbQ kd pl vl 0 4 (tkQ kd 10 st)))).2.2.1 = 0 → u.toInt = vl (st.2.1 + 3) - 1) : Pc ((F_X12_bounded n x 0 u).bind (fun q13 => (if ixOK (8 * hi hr 226 19 + hi hr 237 s) 16 = true then ((F_X12_must n (wrI q13.2 241 k q13.1) 4).bind (fun q16 => (if ((hi q16 226 13) : Int32) = 0 then (if ixOK (hi q16 226 19) 2 = true then (if ixOK (hi q16 226 19) 2 = true then some (wrI q16 237 (Int32.toNatClampNeg (hi q16 226 19)) ((hi q16 237 (Int32.toNatClampNeg (hi q16 226 19))) + 1)) else none) else none) else some q16))) else none))) (rtP kd pl vl s st hr) := by
        refine Pc.bind (rq_number X (R.cg ft3.1) T4 rx) (fun q13 h13 => ?_)
        rw [f0] at h13
        have T5 := nb_in X T4 (lo := 0) (up := u.toInt)
        refine Pc.chk (fun _ => ?_)
        generalize ey : wrI q13.2 241 k q13.1 = y
        have ft4 : fT hr y := by rw [← ey]; exact (ft3.tr h13.1.t).tr (fT.w (by decide))
        have ry : rQ pl y (nbQ kd pl vl 0 u.toInt (nbQ kd pl vl 2 6 (nbQ kd pl vl 0 4 (nbQ kd pl vl 0 4 (tkQ kd 10 st))))) := by rw [← ey]; exact h13.2.1.w (by decide)
        refine Pc.bind (rq_must X (R.cg ft4.1) T5 ry 59 (by decide) (by decide) (by decide)) (fun q16 h16 => ?_)
        have ft5 := ft4.tr h16.1.t
        have r16 (a z : Nat) (n1 : ¬ ((238 ≤ a ∧ a ≤ 241) ∧ z = k)) (n2 : ¬ (a = 226 ∧ (z = 11 ∨ z = 13 ∨ z = 14 ∨ z = 15 ∨ z = 16))) : hi q16 a z = hi hr a z := by
          rw [h16.1.1 a z (by omega), ← ey, hi_wrI, if_neg (by omega), h13.1.1 a z n2, ← ex, hi_wrI, if_neg (by omega), h8.1.1 a z n2, ← ev, hi_wrI, if_neg (by omega), h5.1.1 a z n2, ← eg, hi_wrI, if_neg (by omega), h2.1.1 a z n2, fr.1 a z (by omega)]
        have l16 (a z : Nat) : hl q16 a z = hl hr a z := by
          rw [h16.1.2, ← ey, hl_wrI, h13.1.2, ← ex, hl_wrI, h8.1.2, ← ev, hl_wrI, h5.1.2, ← eg, hl_wrI, h2.1.2, fr.2]
        have e38 : hi q16 238 k = q2.1 := by rw [h16.1.1 238 k (by omega), ← ey, hi_wrI, if_neg (by omega), h13.1.1 238 k (by omega), ← ex, hi_wrI, if_neg (by omega), h8.1.1 238 k (by omega), ← ev, hi_wrI, if_neg (by omega), h5.1.1 238 k (by omega)]; exact hiE eg
        have e39 : hi q16 239 k = q5.1 := by rw [h16.1.1 239 k (by omega), ← ey, hi_wrI, if_neg (by omega), h13.1.1 239 k (by omega), ← ex, hi_wrI, if_neg (by omega), h8.1.1 239 k (by omega)]; exact hiE ev
        have s16 := h16.2.1.2.1
        refine Pc.eq (fun c => ?_) (fun c => Pc.ret ⟨ft5, ⟨fun a z n1 => r16 a z (by omega) (by omega), fun z => l16 234 z⟩, u.toInt, h16.2, hu, fun z => ?_⟩)
        · have e19' : hi q16 226 19 = hi hr 226 19 := r16 226 19 (by omega) (by omega)
          have e37' : hi q16 237 s = hi hr 237 s := r16 237 s (by omega) (by omega)
          rw [e19', es, e37']
          refine Pc.chk (fun _ => Pc.chk (fun _ => Pc.ret ⟨ft5.tr (fT.w (by decide)), ⟨fun a z n1 => ?_, fun z => ?_⟩, u.toInt, h16.2.w (by decide), hu, fun z => ⟨?_, fun i il => ⟨?_, ?_⟩, fun i il => ?_⟩⟩))
          · rw [hi_wrI, if_neg (by omega)]; exact r16 a z (by omega) (by omega)
          · rw [hl_wrI]; exact l16 234 z
          · rw [hi_wrI, if_pos ⟨rfl, rfl⟩]
          · rw [hi_wrI, if_neg (by omega)]; exact r16 238 _ (by omega) (by omega)
          · rw [hi_wrI, if_neg (by omega)]; exact r16 239 _ (by omega) (by omega)
          · have z1 := (tq_0 z).1
            have z2 := (nq_0 z1).1
            have z3 := (nq_0 z2).1
            have e2 := (nq_0 (nq_0 z3).1).2.2
            have ik : 8 * s + i = k := by omega
            rw [hi_wrI, if_neg (by omega), hi_wrI, if_neg (by omega), ik, e38, e39, h2.2.2 (nq_0 z3).1, h5.2.2 z3, e2, e1]
            exact ⟨rfl, rfl⟩
        · exfalso
          have z' : (hi q16 226 13).toInt = (tuE kd pl vl u.toInt st).1 := s16
          omega
      generalize eu : (q8.1 - 1 : Int32) = u
      refine Pc.le (fun c => fin 5 (fun z w => ?_)) (fun c => Pc.chk (fun _ => ?_))
      · have b := beat z w
        have fu := sbG eu rfl lit_1 (by omega) (by omega)
        omega
      · refine fin u (fun z w => ?_)
        have b := beat z w
        have fu := sbG eu rfl lit_1 (by omega) (by omega)
        omega
    · have g1 := Sq.1.2.1
      have ee : ∀ up, tuE kd pl vl up st = tkQ kd 10 st := fun up => by
        unfold tuE
        rw [nq_f zf, nq_f zf, nq_f zf, nq_f zf, tq_f zf]
      refine Pc.eq (fun c => by exfalso; omega) (fun _ => Pc.ret ⟨fr.t, Or.inl ⟨n8, fr.t, ⟨fun a k n1 => fr.1 a k (by omega), fun k => fr.2 234 k⟩, vl (st.2.1 + 3) - 1, ?_, fun _ _ => rfl, fun z => ?_⟩⟩)
      · rw [ee]; exact Sq
      · rw [ee] at z; exact absurd z zf
  · have g1 := Sq.1.2.1
    have z2 : (fuE st).1 = 2 := rfl
    refine Pc.eq (fun c => by exfalso; omega) (fun _ => Pc.ret ⟨fr.t, Or.inr ⟨by omega, Sq⟩⟩)
theorem j_tune (X : TX N kd pl vl) (j : JA N kd pl vl nm s hc hr st) (fz : st.1 = 0) {qc qr : Hp} (a : ctP kd pl vl st hc qc) (b : fT hr qr ∧ (((hi hr 237 s).toInt ≠ 8 ∧ rtP kd pl vl s st hr qr) ∨ ((hi hr 237 s).toInt = 8 ∧ rQ pl qr (fuE st)))) : ∃ st', JA N kd pl vl nm s qc qr st' ∧ (st'.1 = 0 → st.2.1 < st'.2.1) := by
  obtain ⟨j1, j2, j3, j4⟩ := j.2.2.2.2 fz
  obtain ⟨⟨n1, n2, n3⟩, ⟨m1, m2, m3⟩, ⟨o1, o2, o3⟩, p1⟩ := id j2
  obtain ⟨a1, a2⟩ := a
  obtain ⟨b1, b2⟩ := b
  rcases a2 with ⟨a3, ⟨a4, a5⟩, a6, up, a7, a8⟩ | ⟨a3, a4⟩
  · rcases b2 with ⟨b3, -, ⟨b4, b5⟩, up', b6, b7, b8⟩ | ⟨b3, -⟩
    · have eu : tuE kd pl vl up' st = tuE kd pl vl up st := by
        unfold tuE
        rw [nq_up (up := up') (up' := up) (fun z w => (b7 z w).trans (a8 z w).1.symm)]
      rw [eu] at b6 b8
      have i5 : tI2 N (nbQ kd pl vl 2 6 (nbQ kd pl vl 0 4 (nbQ kd pl vl 0 4 (tkQ kd 10 st)))).2.1 := nb_in X (nb_in X (nb_in X (tq_in X j.2.1 (by decide))))
      refine ⟨tuE kd pl vl up st, ⟨j.ctx a1 b1, tq_in X (nb_in X i5) (by decide), a7, b6, fun z => ?_⟩, fun z => ?_⟩
      · obtain ⟨c1, c2, c3⟩ := b8 z
        have f1 := lit_1
        have ad1 := adT (hi hr 237 s) 1 (by omega) (by omega)
        have ad2 := adT (hi hc 2 13) 1 (by omega) (by omega)
        have r (x : Nat) (n : x = 235 ∨ x = 236 ∨ (242 ≤ x ∧ x ≤ 247)) : hi qr x = hi hr x := funext fun k => b4 x k (by omega)
        have c (x : Nat) (n : x = 4 ∨ x = 15) : hi qc x = hi hc x := funext fun k => a4 x k (by omega)
        refine ⟨by rw [b4 226 12 (by decide)]; exact j1, ?_, ?_, fun w => ?_⟩
        · unfold CN
          rw [a6, a4 3 2 (by decide), a4 2 14 (by decide), c1, r 242 (by decide), r 245 (by decide), b4 226 20 (by decide)]
          exact ⟨⟨by omega, by omega, by omega⟩, ⟨m1, m2, m3⟩, ⟨o1, o2, o3⟩, p1⟩
        · obtain ⟨tau, ht⟩ := j3
          refine ⟨tau, fun g hg => ?_⟩
          rw [r 242 (by decide)] at hg
          rw [a5 g, b5 g]
          exact ht g hg
        · have z1 := (tq_0 z).1
          have w1 := nq_w z1 w
          have z2 := (nq_0 z1).1
          have t3 := three_w z2 w1.1
          have e1 := (tq_0 t3.1).2.2
          obtain ⟨-, y, y1, y2, y3⟩ := a8 z2 w1.1
          have w0 : st.2.2.1 = 0 := t3.2.1
          obtain ⟨d1, ⟨d2, d3⟩, d4, d5⟩ := j4 w0
          have v1 := t3.2.2.1
          have v2 := t3.2.2.2.1
          rw [e1] at v1 v2
          have v2' : 0 ≤ vl (st.2.1 + 2) ∧ vl (st.2.1 + 2) ≤ 4 := v2
          obtain ⟨cc, hcc⟩ : ∃ cc : Nat, (hi hr 237 s).toInt = (cc : Int) := ⟨(hi hr 237 s).toInt.toNat, by omega⟩
          have k3 := c3 cc hcc.symm
          refine ⟨?_, ⟨fun e he => ?_, fun k hk => ?_⟩, ?_, ?_⟩
          · rw [c 4 (by decide), r 235 (by decide), r 236 (by decide)]; exact d1
          · rw [c1]
            by_cases q : e = y
            · subst q
              exact ⟨fun _ => ⟨cc, by omega, by rw [k3.1, k3.2]; exact y1⟩, fun _ => y2⟩
            · rw [y3 e q, d2 e he]
              constructor
              · intro ⟨k, k1, k2⟩
                exact ⟨k, by omega, by rw [(c2 k k1).1, (c2 k k1).2]; exact k2⟩
              · intro ⟨k, k1, k2⟩
                by_cases u : (k : Int) < (hi hr 237 s).toInt
                · refine ⟨k, u, ?_⟩
                  rw [(c2 k u).1, (c2 k u).2] at k2
                  exact k2
                · exfalso
                  have : k = cc := by omega
                  subst this
                  rw [k3.1, k3.2] at k2
                  omega
          · rw [c1] at hk
            by_cases q : (k : Int) < (hi hr 237 s).toInt
            · rw [(c2 k q).1, (c2 k q).2]
              exact d3 k q
            · have : k = cc := by omega
              subst this
              unfold sp4
              rw [k3.1, k3.2]
              exact ⟨v1, v2'⟩
          · rw [a4 2 12 (by decide), r 245 (by decide), r 246 (by decide), r 247 (by decide)]
            exact d4
          · rw [c 15 (by decide), r 242 (by decide), r 243 (by decide), r 244 (by decide)]
            exact d5
      · have z1 := tq_0 z
        have e5 := nq_0 z1.1
        have e4 := nq_0 e5.1
        have e3 := nq_0 e4.1
        have e2 := nq_0 e3.1
        have e1 := tq_0 e2.1
        show st.2.1 < (tuE kd pl vl up st).2.1
        unfold tuE
        rw [z1.2.2, e5.2.2, e4.2.2, e3.2.2, e2.2.2, e1.2.2]
        omega
    · exfalso; omega
  · rcases b2 with ⟨b3, -⟩ | ⟨b3, b4⟩
    · exfalso; omega
    · exact ⟨fuE st, ⟨j.ctx a1 b1, j.2.1, a4, b4, fun z => absurd z (show ¬ (2 : Int) = 0 by decide)⟩, fun z => absurd z (show ¬ (2 : Int) = 0 by decide)⟩
end TU
end
section
/-! GOER of both: the class -/
/-- told twice: the worst, if none is worse; p: where the name stands -/
def twQ (b : Bool) (p : Int) (s : Int × Nat × Int × Int) : Int × Nat × Int × Int := (s.1, s.2.1, if b = true ∧ s.1 = 0 ∧ s.2.2.1 = 0 then (3, p) else s.2.2)
def goE (kd pl vl : Nat → Int) (b : Bool) (st : Int × Nat × Int × Int) : Int × Nat × Int × Int := tkQ kd 59 (nbQ kd pl vl 0 4 (nbQ kd pl vl 0 4 (twQ b (pl (tkQ kd 11 st).2.1) (tkQ kd 31 (tkQ kd 11 st)))))
section GO
variable {N : Nat} {kd pl vl nm : Nat → Int} {s : Nat} {hc hr h : Hp} {st : Int × Nat × Int × Int} {n : Nat}
theorem tw_w {b : Bool} {p : Int} (fz : st.1 = 0) (w : (twQ b p st).2.2.1 = 0) : st.2.2.1 = 0 ∧ b ≠ true := by
  unfold twQ at w
  by_cases c : b = true ∧ st.1 = 0 ∧ st.2.2.1 = 0
  · rw [if_pos c] at w
    exact absurd w (show ¬ (3 : Int) = 0 by decide)
  · rw [if_neg c] at w
    exact ⟨w, fun z => c ⟨z, fz, w⟩⟩
def cgL (N : Nat) (kd pl vl : Nat → Int) (p : Int) (g : Nat) (s2 : Int × Nat × Int × Int) (h q : Hp) : Prop := tkK h q ∧ (∀ a k, ¬ (a = 2 ∧ (k = 4 ∨ k = 5 ∨ k = 6 ∨ k = 7)) → ¬ (a = 15 ∧ k = g) → ¬ (a = 3 ∧ k = 2) → hi q a k = hi h a k) ∧ (∀ a k, hl q a k = hl h a k) ∧ hi q 3 2 = hi h 3 2 + 1 ∧ ∃ b : Bool, (s2.1 = 0 → (b = true ↔ ∃ o, o < g ∧ (hl h 14 o).toInt = (hl h 14 g).toInt)) ∧ cQ q (nbQ kd pl vl 0 4 (nbQ kd pl vl 0 4 (twQ b p s2))) ∧ tI2 N (nbQ kd pl vl 0 4 (nbQ kd pl vl 0 4 (twQ b p s2))).2.1 ∧ ((nbQ kd pl vl 0 4 (nbQ kd pl vl 0 4 (twQ b p s2))).1 = 0 → (nbQ kd pl vl 0 4 (nbQ kd pl vl 0 4 (twQ b p s2))).2.2.1 = 0 → (hi q 15 g).toInt = vl s2.2.1 + 5 * vl (s2.2.1 + 1))
set_option maxHeartbeats 4000000 in
theorem cq_goerL (X : TX N kd pl vl) {h0 : Hp} {l1 l2 : Int32} {g : Nat} (hg : l1.toInt = (g : Int)) (g5 : g < 5) {p : Int} (hp : l2.toInt = p) {s2 : Int × Nat × Int × Int} (C0 : CT N kd pl vl h0) (T : tI2 N s2.2.1) : ∀ (n : Nat) (h : Hp) (l3 : Int32) (i : Nat) (b : Bool), frV h0 h → cQ h (twQ b p s2) → l3.toInt = (i : Int) → i ≤ g → (s2.1 = 0 → (b = true ↔ ∃ o, o < i ∧ (hl h0 14 o).toInt = (hl h0 14 g).toInt)) → Pc (W_X7_readGoer n 64 h l1 l2 l3) (cgL N kd pl vl p g s2 h0) := by
  have f0 := lit_0
  have f1 := lit_1
  have f3 := lit_3
  have ng := ncT (show 0 ≤ l1.toInt by omega)
  have eg : Int32.toNatClampNeg l1 = g := by omega
  intro n
  induction n with
  | zero => intro h l3 i b fr S a c d; exact Pc.no
  | succ n ih =>
    intro h l3 i b fr S a c d
    rw [u_X7_readGoer]
    refine Pc.pos rfl ?_
    rw [eg]
    refine Pc.le (fun c1 => ?_) (fun c1 => ?_)
    · have ig : i = g := by omega
      subst ig
      have T' : tI2 N (twQ b p s2).2.1 := T
      refine Pc.bind (cq_spot X (C0.cg fr.tk) T' S) (fun q2 h2 => Pc.chk (fun _ => Pc.ret ?_))
      have fa := fr.tr h2.1
      have e32 (v : Int32) : hi (wrI q2.2 15 i v) 3 2 = hi h0 3 2 := by rw [hi_wrI, if_neg (by omega), fa.1 3 2 (by decide)]
      refine ⟨((fa.tk).tr (tkK.w (by decide) (by decide) (by decide))).tr (tkK.w (by decide) (by decide) (by decide)), fun x k n1 n2 n3 => ?_, fun x k => ?_, ?_, b, d, (h2.2.1.w (by omega)).w (by omega), nb_in X (nb_in X T'), fun z w => ?_⟩
      · rw [hi_wrI, if_neg (by omega), hi_wrI, if_neg (by omega), fa.1 x k (by omega)]
      · rw [hl_wrI, hl_wrI, fa.2]
      · rw [hi_wrI, if_pos ⟨rfl, rfl⟩, e32]
      · rw [hi_wrI, if_neg (by omega), hi_wrI, if_pos ⟨rfl, rfl⟩]
        exact h2.2.2.2 z w
    · have ni := ncT (show 0 ≤ l3.toInt by omega)
      have ei : Int32.toNatClampNeg l3 = i := by omega
      have a1 := adT l3 1 (by omega) (by omega)
      rw [ei]
      refine Pc.chk (fun _ => Pc.chk (fun _ => ?_))
      have lz := lgz (hl h 14 i) (hl h 14 g)
      rw [fr.2 14 i, fr.2 14 g] at lz ⊢
      refine Pc.eq (fun c2 => ?_) (fun c2 => ?_)
      · have eq := lz.mp (c2.trans f0)
        refine Pc.bind pc_blame (fun q8 h8 => ?_)
        obtain ⟨b1, b2, b3, b4⟩ := h8
        refine ih q8 (l3 + 1) (i + 1) true (fr.tr b1) ⟨⟨by rw [b2 5 (by decide) (by decide)]; exact S.1.1, by rw [b2 4 (by decide) (by decide)]; exact S.1.2⟩, fun z => ?_⟩ (by omega) (by omega) (fun _ => ⟨fun _ => ⟨i, by omega, eq⟩, fun _ => rfl⟩)
        have z' : s2.1 = 0 := z
        have sw := S.2 z'
        by_cases w : s2.2.2.1 = 0
        · have e1 : (twQ true p s2).2.2 = (3, p) := if_pos ⟨rfl, z', w⟩
          rw [e1]
          by_cases bb : b = true
          · have e2 : (twQ b p s2).2.2 = (3, p) := if_pos ⟨bb, z', w⟩
            rw [e2] at sw
            have s3 : (hi h 2 6).toInt = 3 := sw.1
            rw [b4 (by omega)]
            exact sw
          · have e2 : (twQ b p s2).2.2 = s2.2.2 := if_neg (fun u => bb u.1)
            rw [e2] at sw
            have y := b3 (by rw [sw.1]; exact w)
            exact ⟨by rw [y.1]; exact f3, fun _ => by rw [y.2]; exact hp⟩
        · have e1 : (twQ true p s2).2.2 = s2.2.2 := if_neg (fun u => w u.2.2)
          have e2 : (twQ b p s2).2.2 = s2.2.2 := if_neg (fun u => w u.2.2)
          rw [e1]
          rw [e2] at sw
          rw [b4 (by rw [sw.1]; exact w)]
          exact sw
      · refine ih h (l3 + 1) (i + 1) b fr S (by omega) (by omega) (fun z => ?_)
        rw [d z]
        constructor
        · intro ⟨o, o1, o2⟩
          exact ⟨o, by omega, o2⟩
        · intro ⟨o, o1, o2⟩
          by_cases q : o = i
          · subst q
            exact absurd ((lz.mpr o2).trans f0.symm) c2
          · exact ⟨o, by omega, o2⟩
def cgP (kd pl vl : Nat → Int) (st : Int × Nat × Int × Int) (h q : Hp) : Prop := tkK h q ∧ (((hi h 3 2).toInt < 5 ∧ (∀ a k : Nat, ((a = 2 ∧ (k = 12 ∨ k = 13 ∨ k = 14)) ∨ a = 4 ∨ a = 16 ∨ (a = 15 ∧ (k : Int) ≠ (hi h 3 2).toInt)) → hi q a k = hi h a k) ∧ hi q 3 2 = hi h 3 2 + 1 ∧ (∀ k : Nat, (k : Int) ≠ (hi h 3 2).toInt → hl q 14 k = hl h 14 k) ∧ ∃ b : Bool, cQ q (goE kd pl vl b st) ∧ ((tkQ kd 31 (tkQ kd 11 st)).1 = 0 → (∀ g : Nat, (g : Int) = (hi h 3 2).toInt → (hl q 14 g).toInt = vl (st.2.1 + 1)) ∧ (b = true ↔ ∃ o : Nat, (o : Int) < (hi h 3 2).toInt ∧ (hl h 14 o).toInt = vl (st.2.1 + 1))) ∧ ((goE kd pl vl b st).1 = 0 → (goE kd pl vl b st).2.2.1 = 0 → ∀ g : Nat, (g : Int) = (hi h 3 2).toInt → (hi q 15 g).toInt = vl (st.2.1 + 2) + 5 * vl (st.2.1 + 3))) ∨ (5 ≤ (hi h 3 2).toInt ∧ cQ q (fuE st)))
set_option maxHeartbeats 4000000 in
theorem cq_goer (X : TX N kd pl vl) (C : CT N kd pl vl hc) (T : tI2 N st.2.1) (S : cQ hc st) (fz : st.1 = 0) (g0 : 0 ≤ (hi hc 3 2).toInt) : Pc ((F_X7_readGoer n hc).bind (fun q2 => ((F_X7_take n q2 59).bind (fun q4 => some q4.2)))) (cgP kd pl vl st hc) := by
  have f0 := lit_0
  have f2 := lit_2
  have f5 := lit_5
  unfold F_X7_readGoer
  by_cases c : (hi hc 3 2) < (5 : Int32)
  · rw [if_pos c]
    have c' := Int32.lt_iff_toInt_lt.mp c
    obtain ⟨g, hg⟩ : ∃ g : Nat, (hi hc 3 2).toInt = (g : Int) := ⟨(hi hc 3 2).toInt.toNat, by omega⟩
    have ng := ncT g0
    have eg : Int32.toNatClampNeg (hi hc 3 2) = g := by omega
    rw [eg, Option.bind_assoc]
    refine Pc.bind (cq_take X C T S 11 lit_11) (fun q11 h11 => ?_)
    rw [Option.bind_assoc]
    have T1 := tq_in X T (k := 11) (by decide)
    refine Pc.bind (pc_valueOf (C.cg h11.1.tk) T1 h11.2.1.1.2) (fun q13 h13 => ?_)
    rw [h13.1]
    generalize ew : wrL q11.2 14 g q13.1 = w
    have tw : tkK hc w := by
      rw [← ew]
      exact h11.1.tk.tr ⟨fun _ => rfl, fun _ => rfl, fun _ => rfl, fun k => by rw [hl_wrL, if_neg (by omega)]⟩
    have hw (a k : Nat) : hi w a k = hi q11.2 a k := by rw [← ew]; rfl
    have Sw : cQ w (tkQ kd 11 st) := by
      have := h11.2.1
      unfold cQ cS at this ⊢
      rw [hw, hw, hw, hw]
      exact this
    have lw' (a k : Nat) : hl w a k = if a = 14 ∧ k = g then q13.1 else hl hc a k := by
      rw [← ew, hl_wrL, h11.1.2]
    by_cases ci : ixOK (hi hc 3 2) 5 = true
    · rw [if_pos ci, Option.bind_assoc]
      refine Pc.bind (pc_placeOf (C.cg tw) T1 Sw.1.2) (fun q16 h16 => ?_)
      rw [h16.1, Option.bind_assoc]
      refine Pc.bind (cq_take X (C.cg tw) T1 Sw 31 lit_31) (fun q18 h18 => ?_)
      have T2 := tq_in X T1 (k := 31) (by decide)
      have e0 : twQ false (pl (tkQ kd 11 st).2.1) (tkQ kd 31 (tkQ kd 11 st)) = tkQ kd 31 (tkQ kd 11 st) := by
        unfold twQ
        rw [if_neg (fun u => absurd u.1 (by decide))]
      refine Pc.bind (cq_goerL X (h0 := q18.2) hg (by omega) h16.2 (C.cg (tw.tr h18.1.tk)) T2 n q18.2 0 0 false (frV.rf q18.2) (by rw [e0]; exact h18.2.1) f0 (by omega) (fun _ => ⟨fun z => absurd z (by decide), fun ⟨o, o1, _⟩ => absurd o1 (Nat.not_lt_zero o)⟩)) (fun q hq => ?_)
      obtain ⟨a1, a2, a3, a4, b, a5, a6, a7, a8⟩ := hq
      have tk1 := (tw.tr h18.1.tk).tr a1
      refine Pc.bind (cq_take X (C.cg tk1) a7 a6 59 lit_59) (fun r hr' => Pc.ret ⟨tk1.tr hr'.1.tk, Or.inl ⟨by omega, fun a k n1 => ?_, ?_, fun k nk => ?_, b, hr'.2.1, fun z => ?_, fun z w g' hg' => ?_⟩⟩)
      · rw [hr'.1.1 a k (by omega), a2 a k (by omega) (by omega) (by omega), h18.1.1 a k (by omega), hw, h11.1.1 a k (by omega)]
      · rw [hr'.1.1 3 2 (by decide), a4, h18.1.1 3 2 (by decide), hw, h11.1.1 3 2 (by decide)]
      · rw [hr'.1.2, a3, h18.1.2, lw', if_neg (by omega)]
      · have z1 := tq_0 z
        have e1 := (tq_0 z1.1).2.2
        have tN : (tkQ kd 11 st).2.1 < N := by
          by_cases y : (tkQ kd 11 st).2.1 < N
          · exact y
          · exfalso
            have : (tkQ kd 11 st).2.1 = N := by have := T1.1; omega
            have z2 := z1.2.1
            rw [this, X.2.1] at z2
            exact absurd z2 (by decide)
        have v13 := (h13.2 tN).2
        rw [e1] at v13
        refine ⟨fun g' hg' => ?_, ?_⟩
        · have : g' = g := by omega
          subst this
          rw [hr'.1.2, a3, h18.1.2, lw', if_pos ⟨rfl, rfl⟩]
          exact v13
        · rw [a5 z]
          have lg : hl q18.2 14 g = q13.1 := by rw [h18.1.2, lw', if_pos ⟨rfl, rfl⟩]
          rw [lg, v13]
          constructor
          · intro ⟨o, o1, o2⟩
            refine ⟨o, by omega, ?_⟩
            rw [h18.1.2, lw', if_neg (by omega)] at o2
            exact o2
          · intro ⟨o, o1, o2⟩
            refine ⟨o, by omega, ?_⟩
            rw [h18.1.2, lw', if_neg (by omega)]
            exact o2
      · have : g' = g := by omega
        subst this
        have z1 := (tq_0 z).1
        have z2 : (tkQ kd 31 (tkQ kd 11 st)).1 = 0 := (nq_0 (nq_0 z1).1).1
        have e2 := (tq_0 z2).2.2
        have e1 := (tq_0 (tq_0 z2).1).2.2
        have y := a8 z1 w
        rw [e2, e1] at y
        rw [hr'.1.1 15 g' (by omega)]
        exact y
    · rw [if_neg ci]
      exact Pc.no
  · rw [if_neg c]
    have c' : ¬ (hi hc 3 2).toInt < (5 : Int32).toInt := fun z => c (Int32.lt_iff_toInt_lt.mpr z)
    rw [Option.bind_assoc]
    have S1 := S.1
    rw [fz] at S1
    refine Pc.bind (pc_stop S1) (fun q6 h6 => ?_)
    have S6 := h6.2
    rw [if_pos rfl, f2] at S6
    have z2 : (2 : Int) ≠ 0 := by decide
    have c6 : cQ q6 (fuE st) := ⟨S6, fun z => absurd z z2⟩
    show Pc ((F_X7_take n q6 59).bind (fun q4 => some q4.2)) (cgP kd pl vl st hc)
    refine Pc.bind (cq_take (s := fuE st) X (C.cg h6.1.tk) T c6 59 lit_59) (fun r hr' => Pc.ret ⟨h6.1.tk.tr hr'.1.tk, Or.inr ⟨by omega, ?_⟩⟩)
    have e : tkQ kd 59 (fuE st) = fuE st := tq_f z2
    rw [← e]
    exact hr'.2.1
end GO
end
section
/-! GOER of both: the reference, and both -/
def tgT (n : Nat) (h : Hp) (l1 l2 : Int32) : Option Hp := ((F_X12_bounded n h 0 4).bind (fun q2 => (if ixOK l1 10 = true then ((F_X12_bounded n (wrI q2.2 243 (Int32.toNatClampNeg l1) q2.1) 0 4).bind (fun q5 => (if ixOK l1 10 = true then ((F_X12_must n (wrI q5.2 244 (Int32.toNatClampNeg l1) q5.1) 4).bind (fun q8 => (if ((hi q8 226 13) : Int32) ≤ 0 then (if ixOK l2 403 = true then (if ixOK (hi q8 226 20) 5 = true then (if ixOK (hi (wrI (wrL q8 234 (Int32.toNatClampNeg (hi q8 226 20)) (hl q8 232 (Int32.toNatClampNeg l2))) 226 20 ((hi (wrL q8 234 (Int32.toNatClampNeg (hi q8 226 20)) (hl q8 232 (Int32.toNatClampNeg l2))) 226 20) + 1)) 226 19) 2 = true then (if ixOK (hi (wrI (wrL q8 234 (Int32.toNatClampNeg (hi q8 226 20)) (hl q8 232 (Int32.toNatClampNeg l2))) 226 20 ((hi (wrL q8 234 (Int32.toNatClampNeg (hi q8 226 20)) (hl q8 232 (Int32.toNatClampNeg l2))) 226 20) + 1)) 226 19) 2 = true then some (wrI (wrI (wrL q8 234 (Int32.toNatClampNeg (hi q8 226 20)) (hl q8 232 (Int32.toNatClampNeg l2))) 226 20 ((hi (wrL q8 234 (Int32.toNatClampNeg (hi q8 226 20)) (hl q8 232 (Int32.toNatClampNeg l2))) 226 20) + 1)) 242 (Int32.toNatClampNeg (hi (wrI (wrL q8 234 (Int32.toNatClampNeg (hi q8 226 20)) (hl q8 232 (Int32.toNatClampNeg l2))) 226 20 ((hi (wrL q8 234 (Int32.toNatClampNeg (hi q8 226 20)) (hl q8 232 (Int32.toNatClampNeg l2))) 226 20) + 1)) 226 19)) ((hi (wrI (wrL q8 234 (Int32.toNatClampNeg (hi q8 226 20)) (hl q8 232 (Int32.toNatClampNeg l2))) 226 20 ((hi (wrL q8 234 (Int32.toNatClampNeg (hi q8 226 20)) (hl q8 232 (Int32.toNatClampNeg l2))) 226 20) + 1)) 242 (Int32.toNatClampNeg (hi (wrI (wrL q8 234 (Int32.toNatClampNeg (hi q8 226 20)) (hl q8 232 (Int32.toNatClampNeg l2))) 226 20 ((hi (wrL q8 234 (Int32.toNatClampNeg (hi q8 226 20)) (hl q8 232 (Int32.toNatClampNeg l2))) 226 20) + 1)) 226 19))) + 1)) else none) else none) else none) else none) else some q8))) else none))) else none)))
section GR
variable {N : Nat} {kd pl vl nm : Nat → Int} {s : Nat} {hc hr h : Hp} {st : Int × Nat × Int × Int} {n : Nat}
theorem pr_wrongK (R : RT N kd pl vl h) {t0 : Nat} (T0 : tI2 N t0) {x1 x2 : Int32} (hx : x2.toInt = (t0 : Int)) (w : (hi h 226 15).toInt ≠ 0) (le : (hi h 226 16).toInt < pl t0 ∨ ((hi h 226 16).toInt = pl t0 ∧ (hi h 226 15).toInt ≤ x1.toInt)) : Pc (F_X12_wrong n h x1 x2) (fun q => q = h) := by
  have f0 := lit_0
  unfold F_X12_wrong
  have n1 := ncT (show 0 ≤ x2.toInt by omega)
  have n2 : Int32.toNatClampNeg x2 = t0 := by omega
  rw [n2]
  have rp := (R t0 T0).2.1
  refine Pc.chk (fun _ => ?_)
  refine Pc.lt (fun _ => Pc.ret rfl) (fun _ => ?_)
  refine Pc.eq (fun c => by exfalso; omega) (fun c => ?_)
  refine Pc.lt (fun _ => Pc.ret rfl) (fun c2 => ?_)
  exact Pc.eq (fun c3 => Pc.lt (fun c4 => by exfalso; omega) (fun _ => Pc.ret rfl)) (fun c3 => by exfalso; omega)
/-- the end of a goer: K where it is kept, t0 where its name stands -/
def tgP (kd pl vl : Nat → Int) (s K t0 : Nat) (s3 : Int × Nat × Int × Int) (h q : Hp) : Prop := fT h q ∧ (∀ a k : Nat, (((235 ≤ a ∧ a ≤ 241) ∨ (245 ≤ a ∧ a ≤ 247)) ∨ ((a = 243 ∨ a = 244) ∧ k ≠ K) ∨ (a = 226 ∧ k = 12)) → hi q a k = hi h a k) ∧ (∀ k : Nat, (k : Int) ≠ (hi h 226 20).toInt → hl q 234 k = hl h 234 k) ∧ rQ pl q (tkQ kd 59 (nbQ kd pl vl 0 4 (nbQ kd pl vl 0 4 s3))) ∧ ((tkQ kd 59 (nbQ kd pl vl 0 4 (nbQ kd pl vl 0 4 s3))).1 = 0 → hi q 242 s = hi h 242 s + 1 ∧ hi q 226 20 = hi h 226 20 + 1 ∧ (∀ k : Nat, (k : Int) = (hi h 226 20).toInt → hl q 234 k = hl h 232 t0) ∧ (hi q 243 K).toInt = vl s3.2.1 ∧ (hi q 244 K).toInt = vl (s3.2.1 + 1))
set_option maxHeartbeats 4000000 in
theorem rq_tail (X : TX N kd pl vl) (hs : s ≤ 1) (R : RT N kd pl vl h) {s3 : Int × Nat × Int × Int} (T : tI2 N s3.2.1) (S : rQ pl h s3) (sd : (hi h 226 19).toInt = (s : Int)) {l1 l2 : Int32} {K t0 : Nat} (hK : l1.toInt = (K : Int)) (ht : l2.toInt = (t0 : Int)) (g0 : 0 ≤ (hi h 226 20).toInt) (g5 : (hi h 226 20).toInt < 5) : Pc (tgT n h l1 l2) (tgP kd pl vl s K t0 s3 h) := by
  have f0 := lit_0
  have f1 := lit_1
  have f4 := lit_4
  have nK := ncT (show 0 ≤ l1.toInt by omega)
  have eK : Int32.toNatClampNeg l1 = K := by omega
  have nt := ncT (show 0 ≤ l2.toInt by omega)
  have et : Int32.toNatClampNeg l2 = t0 := by omega
  have ns := ncT (show 0 ≤ (hi h 226 19).toInt by omega)
  have es : Int32.toNatClampNeg (hi h 226 19) = s := by omega
  have ng := ncT g0
  unfold tgT
  rw [eK, et]
  refine Pc.bind (rq_number X R T S) (fun q2 h2 => ?_)
  rw [f0, f4] at h2
  have T2 := nb_in X T (lo := 0) (up := 4)
  refine Pc.chk (fun _ => ?_)
  generalize eg : wrI q2.2 243 K q2.1 = g
  have ft1 : fT h g := by rw [← eg]; exact h2.1.t.tr (fT.w (by decide))
  have rg : rQ pl g (nbQ kd pl vl 0 4 s3) := by rw [← eg]; exact h2.2.1.w (by decide)
  refine Pc.bind (rq_number X (R.cg ft1.1) T2 rg) (fun q5 h5 => ?_)
  rw [f0, f4] at h5
  have T3 := nb_in X T2 (lo := 0) (up := 4)
  refine Pc.chk (fun _ => ?_)
  generalize ev : wrI q5.2 244 K q5.1 = v
  have ft2 : fT h v := by rw [← ev]; exact (ft1.tr h5.1.t).tr (fT.w (by decide))
  have rv : rQ pl v (nbQ kd pl vl 0 4 (nbQ kd pl vl 0 4 s3)) := by rw [← ev]; exact h5.2.1.w (by decide)
  refine Pc.bind (rq_must X (R.cg ft2.1) T3 rv 59 (by decide) (by decide) (by decide)) (fun q8 h8 => ?_)
  have ft3 := ft2.tr h8.1.t
  have r8 (a z : Nat) (n1 : ¬ ((a = 243 ∨ a = 244) ∧ z = K)) (n2 : ¬ (a = 226 ∧ (z = 11 ∨ z = 13 ∨ z = 14 ∨ z = 15 ∨ z = 16))) : hi q8 a z = hi h a z := by
    rw [h8.1.1 a z (by omega), ← ev, hi_wrI, if_neg (by omega), h5.1.1 a z n2, ← eg, hi_wrI, if_neg (by omega), h2.1.1 a z n2]
  have l8 (a z : Nat) : hl q8 a z = hl h a z := by
    rw [h8.1.2, ← ev, hl_wrI, h5.1.2, ← eg, hl_wrI, h2.1.2]
  have e43 : hi q8 243 K = q2.1 := by rw [h8.1.1 243 K (by omega), ← ev, hi_wrI, if_neg (by omega), h5.1.1 243 K (by omega)]; exact hiE eg
  have e44 : hi q8 244 K = q5.1 := by rw [h8.1.1 244 K (by omega)]; exact hiE ev
  have s8 := h8.2.1.2.1
  have s0 := h8.2.1.1
  refine Pc.le (fun c => ?_) (fun c => Pc.ret ⟨ft3, fun a z n1 => r8 a z (by omega) (by omega), fun z _ => l8 234 z, h8.2, fun z => ?_⟩)
  · have e20 : hi q8 226 20 = hi h 226 20 := r8 226 20 (by omega) (by omega)
    have e19 : hi q8 226 19 = hi h 226 19 := r8 226 19 (by omega) (by omega)
    rw [e20, l8]
    generalize ew : wrL q8 234 (Int32.toNatClampNeg (hi h 226 20)) (hl h 232 t0) = w
    have hw (a z : Nat) : hi w a z = hi q8 a z := by rw [← ew]; rfl
    rw [hw, e20]
    generalize ex : wrI w 226 20 (hi h 226 20 + 1) = x
    have x19 : hi x 226 19 = hi h 226 19 := by rw [← ex, hi_wrI, if_neg (by decide), hw, e19]
    have x42 : hi x 242 s = hi h 242 s := by rw [← ex, hi_wrI, if_neg (by omega), hw]; exact r8 242 s (by omega) (by omega)
    rw [x19, es, x42]
    have lw (a z : Nat) : hl w a z = if a = 234 ∧ z = Int32.toNatClampNeg (hi h 226 20) then hl h 232 t0 else hl h a z := by rw [← ew, hl_wrL, l8]
    refine Pc.chk (fun _ => Pc.chk (fun _ => Pc.chk (fun _ => Pc.chk (fun _ => Pc.ret ?_))))
    have hx (a z : Nat) (n0 : ¬ (a = 226 ∧ z = 20)) : hi x a z = hi q8 a z := by rw [← ex, hi_wrI, if_neg n0, hw]
    have lx (a z : Nat) : hl x a z = hl w a z := by rw [← ex, hl_wrI]
    refine ⟨⟨⟨fun z => ?_, fun z => ?_, fun z => ?_⟩, fun z => ?_, ?_⟩, fun a z n1 => ?_, fun z nz => ?_, ?_, fun z => ⟨?_, ?_, fun k hk => ?_, ?_, ?_⟩⟩
    · rw [hi_wrI, if_neg (by omega), hx 229 z (by omega)]; exact ft3.1.1 z
    · rw [hi_wrI, if_neg (by omega), hx 230 z (by omega)]; exact ft3.1.2.1 z
    · rw [hi_wrI, if_neg (by omega), hx 231 z (by omega)]; exact ft3.1.2.2 z
    · rw [hl_wrI, lx, lw, if_neg (by omega)]
    · rw [hi_wrI, if_neg (by omega), x19]
    · rw [hi_wrI, if_neg (by omega), hx a z (by omega)]; exact r8 a z (by omega) (by omega)
    · rw [hl_wrI, lx, lw, if_neg (by omega)]
    · have q := h8.2
      unfold rQ rT at q ⊢
      rw [hi_wrI, if_neg (by omega), hi_wrI, if_neg (by omega), hi_wrI, if_neg (by omega), hi_wrI, if_neg (by omega), hi_wrI, if_neg (by omega), hx 226 13 (by decide), hx 226 11 (by decide), hx 226 14 (by decide), hx 226 15 (by decide), hx 226 16 (by decide)]
      exact q
    · rw [hi_wrI, if_pos ⟨rfl, rfl⟩]
    · rw [hi_wrI, if_neg (by omega)]; exact hiE ex
    · rw [hl_wrI, lx, lw, if_pos ⟨rfl, by omega⟩]
    · have z1 := (tq_0 z).1
      rw [hi_wrI, if_neg (by omega), hx 243 K (by omega), e43, h2.2.2 (nq_0 z1).1]
    · have z1 := (tq_0 z).1
      have e2 := (nq_0 (nq_0 z1).1).2.2
      rw [hi_wrI, if_neg (by omega), hx 244 K (by omega), e44, h5.2.2 z1, e2]
  · exfalso
    have z' : (hi q8 226 13).toInt = (tkQ kd 59 (nbQ kd pl vl 0 4 (nbQ kd pl vl 0 4 s3))).1 := s8
    omega
def frX (h h' : Hp) : Prop := (∀ a k, ¬ (a = 226 ∧ (k = 15 ∨ k = 16)) → hi h' a k = hi h a k) ∧ ∀ a k, hl h' a k = hl h a k
theorem pr_wrongX (R : RT N kd pl vl h) {t0 : Nat} (T0 : tI2 N t0) {x1 x2 : Int32} (hx : x2.toInt = (t0 : Int)) (fz : (hi h 226 13).toInt = 0) (w : (hi h 226 15).toInt = 0) : Pc (F_X12_wrong n h x1 x2) (fun q => frX h q ∧ hi q 226 15 = x1 ∧ (hi q 226 16).toInt = pl t0) := by
  have f0 := lit_0
  unfold F_X12_wrong
  have n1 := ncT (show 0 ≤ x2.toInt by omega)
  have n2 : Int32.toNatClampNeg x2 = t0 := by omega
  rw [n2]
  have rp := (R t0 T0).2.1
  refine Pc.chk (fun _ => ?_)
  refine Pc.lt (fun c => by exfalso; omega) (fun _ => ?_)
  refine Pc.eq (fun c => Pc.ret ⟨⟨fun a k n => by rw [hi_wrI, if_neg (by omega), hi_wrI, if_neg (by omega)], fun a k => rfl⟩, ?_, ?_⟩) (fun c => by exfalso; omega)
  · rw [hi_wrI, if_neg (by decide), hi_wrI, if_pos ⟨rfl, rfl⟩]
  · rw [hi_wrI, if_pos ⟨rfl, rfl⟩]; exact rp
def grL (kd pl vl : Nat → Int) (s K t0 g : Nat) (s2 : Int × Nat × Int × Int) (h q : Hp) : Prop := ∃ b : Bool, (s2.1 = 0 → (b = true ↔ ∃ o, o < g ∧ (hl h 234 o).toInt = (hl h 232 t0).toInt)) ∧ tgP kd pl vl s K t0 (twQ b (pl t0) s2) h q
theorem tgP.cg {K t0 : Nat} {s3 : Int × Nat × Int × Int} {h0 q : Hp} (f : frX h0 h) (a : tgP kd pl vl s K t0 s3 h q) : tgP kd pl vl s K t0 s3 h0 q := by
  obtain ⟨a1, a2, a3, a4, a5⟩ := a
  have ft : fT h0 h := ⟨⟨fun k => f.1 229 k (by omega), fun k => f.1 230 k (by omega), fun k => f.1 231 k (by omega)⟩, fun k => f.2 232 k, f.1 226 19 (by decide)⟩
  have e20 := f.1 226 20 (by decide)
  refine ⟨ft.tr a1, fun x k n => (a2 x k n).trans (f.1 x k (by omega)), fun k n => ?_, a4, fun z => ?_⟩
  · rw [a3 k (by rw [e20]; exact n), f.2]
  · obtain ⟨b1, b2, b3, b4, b5⟩ := a5 z
    rw [f.1 242 s (by omega)] at b1
    rw [e20] at b2 b3
    exact ⟨b1, b2, fun k hk => by rw [b3 k hk, f.2], b4, b5⟩
set_option maxHeartbeats 4000000 in
theorem rq_goerL (X : TX N kd pl vl) (hs : s ≤ 1) {h0 : Hp} (R0 : RT N kd pl vl h0) {l1 l2 : Int32} {K t0 g : Nat} (hK : l1.toInt = (K : Int)) (ht : l2.toInt = (t0 : Int)) {s2 : Int × Nat × Int × Int} (T : tI2 N s2.2.1) (T0 : tI2 N t0) (sd : (hi h0 226 19).toInt = (s : Int)) (hg : (hi h0 226 20).toInt = (g : Int)) (g5 : g < 5) (p0 : s2.1 = 0 → pl t0 < pl s2.2.1) (wl : s2.1 = 0 → s2.2.2.1 ≠ 0 → s2.2.2.2 < pl t0) : ∀ (n : Nat) (h : Hp) (l3 : Int32) (i : Nat) (b : Bool), frX h0 h → rQ pl h (twQ b (pl t0) s2) → l3.toInt = (i : Int) → i ≤ g → (s2.1 = 0 → (b = true ↔ ∃ o, o < i ∧ (hl h0 234 o).toInt = (hl h0 232 t0).toInt)) → (s2.1 ≠ 0 → b = false) → Pc (W_X12_tellGoer n 29 h l1 l2 l3) (grL kd pl vl s K t0 g s2 h0) := by
  have f0 := lit_0
  have f1 := lit_1
  have f3 := lit_3
  intro n
  induction n with
  | zero => intro h l3 i b fr S a c d d'; exact Pc.no
  | succ n ih =>
    intro h l3 i b fr S a c d d'
    have R : RT N kd pl vl h := R0.cg ⟨fun k => fr.1 229 k (by omega), fun k => fr.1 230 k (by omega), fun k => fr.1 231 k (by omega)⟩
    have e20 := fr.1 226 20 (by decide)
    have e19 := fr.1 226 19 (by decide)
    have T' : tI2 N (twQ b (pl t0) s2).2.1 := T
    have tl (ok : s2.1 = 0 → (b = true ↔ ∃ o, o < g ∧ (hl h0 234 o).toInt = (hl h0 232 t0).toInt)) : Pc (tgT n h l1 l2) (grL kd pl vl s K t0 g s2 h0) := by
      refine (rq_tail X hs R T' S (by rw [e19]; exact sd) hK ht (by rw [e20]; omega) (by rw [e20]; omega)).mono (fun q hq => ⟨b, ok, hq.cg fr⟩)
    rw [u_X12_tellGoer]
    refine Pc.pos rfl ?_
    rw [e20]
    refine Pc.le (fun c1 => ?_) (fun c1 => ?_)
    · have ig : i = g := by omega
      subst ig
      exact tl d
    · have s1 := S.1.2.1
      have s1' : (hi h 226 13).toInt = s2.1 := s1
      refine Pc.eq (fun c2 => ?_) (fun c2 => ?_)
      · have fz : s2.1 = 0 := by omega
        have ni := ncT (show 0 ≤ l3.toInt by omega)
        have ei : Int32.toNatClampNeg l3 = i := by omega
        have nt := ncT (show 0 ≤ l2.toInt by omega)
        have et : Int32.toNatClampNeg l2 = t0 := by omega
        have a1 := adT l3 1 (by omega) (by omega)
        rw [ei, et]
        refine Pc.chk (fun _ => Pc.chk (fun _ => ?_))
        have lz := lgz (hl h 234 i) (hl h 232 t0)
        rw [fr.2 234 i, fr.2 232 t0] at lz ⊢
        refine Pc.eq (fun c3 => ?_) (fun c3 => ?_)
        · have eq := lz.mp (c3.trans f0)
          have nx : (s2.1 = 0 → (true = true ↔ ∃ o, o < i + 1 ∧ (hl h0 234 o).toInt = (hl h0 232 t0).toInt)) := fun _ => ⟨fun _ => ⟨i, by omega, eq⟩, fun _ => rfl⟩
          have sw := S.2 fz
          by_cases w : s2.2.2.1 = 0
          · have e1 : (twQ true (pl t0) s2).2.2 = (3, pl t0) := if_pos ⟨rfl, fz, w⟩
            by_cases bb : b = true
            · have e2 : (twQ b (pl t0) s2).2.2 = (3, pl t0) := if_pos ⟨bb, fz, w⟩
              rw [e2] at sw
              have w3 : (hi h 226 15).toInt = 3 := sw.1
              have p3 := (sw.2 (show (3 : Int) ≠ 0 by decide)).1
              have p3' : (hi h 226 16).toInt = pl t0 := p3
              refine Pc.bind (pr_wrongK R T0 ht (by omega) (Or.inr ⟨p3', by omega⟩)) (fun q hq => ?_)
              rw [hq]
              refine ih h (l3 + 1) (i + 1) true fr ?_ (by omega) (by omega) nx (fun z => absurd fz z)
              rw [bb] at S
              exact S
            · have e2 : (twQ b (pl t0) s2).2.2 = s2.2.2 := if_neg (fun u => bb u.1)
              rw [e2] at sw
              have S1 : rT pl h s2.1 s2.2.1 := S.1
              rw [fz] at S1
              refine Pc.bind (pr_wrongX R T0 ht (by omega) (by rw [sw.1]; exact w)) (fun q hq => ?_)
              obtain ⟨x1, x2, x3⟩ := hq
              refine ih q (l3 + 1) (i + 1) true ⟨fun x k n => (x1.1 x k n).trans (fr.1 x k n), fun x k => (x1.2 x k).trans (fr.2 x k)⟩ ⟨?_, fun _ => ?_⟩ (by omega) (by omega) nx (fun z => absurd fz z)
              · have S1' : rT pl h s2.1 s2.2.1 := S.1
                show rT pl q s2.1 s2.2.1
                unfold rT at S1' ⊢
                rw [x1.1 226 13 (by decide), x1.1 226 11 (by decide), x1.1 226 14 (by decide)]
                exact S1'
              · rw [e1, x2]
                exact ⟨f3, fun _ => ⟨x3, p0 fz⟩⟩
          · have e2 : (twQ b (pl t0) s2).2.2 = s2.2.2 := if_neg (fun u => w u.2.2)
            have e1 : (twQ true (pl t0) s2).2.2 = s2.2.2 := if_neg (fun u => w u.2.2)
            have sw' := sw
            rw [e2] at sw'
            have p3 := (sw'.2 w).1
            refine Pc.bind (pr_wrongK R T0 ht (by rw [sw'.1]; exact w) (Or.inl (by rw [p3]; exact wl fz w))) (fun q hq => ?_)
            rw [hq]
            refine ih h (l3 + 1) (i + 1) true fr ⟨S.1, fun z => ?_⟩ (by omega) (by omega) nx (fun z => absurd fz z)
            rw [e1]
            exact sw'
        · refine ih h (l3 + 1) (i + 1) b fr S (by omega) (by omega) (fun z => ?_) d'
          rw [d z]
          constructor
          · intro ⟨o, o1, o2⟩
            exact ⟨o, by omega, o2⟩
          · intro ⟨o, o1, o2⟩
            by_cases q : o = i
            · subst q
              exact absurd ((lz.mpr o2).trans f0.symm) c3
            · exact ⟨o, by omega, o2⟩
      · exact tl (fun z => by exfalso; omega)
end GR
end
section
/-! GOER of both: together -/
section GJ
variable {N : Nat} {kd pl vl nm : Nat → Int} {s : Nat} {hc hr h : Hp} {st : Int × Nat × Int × Int} {n : Nat}
theorem tw_f {b : Bool} {p : Int} (fz : st.1 ≠ 0) : twQ b p st = st := by
  unfold twQ
  rw [if_neg (fun u => fz u.2.1)]
theorem go_f {b : Bool} (fz : (tkQ kd 11 st).1 ≠ 0) : goE kd pl vl b st = tkQ kd 11 st := by
  unfold goE
  rw [tq_f (k := 31) fz, tw_f fz, nq_f fz, nq_f fz, tq_f fz]
theorem go_b {b b' : Bool} (h : (tkQ kd 31 (tkQ kd 11 st)).1 = 0 → b = b') : goE kd pl vl b st = goE kd pl vl b' st := by
  by_cases z : (tkQ kd 31 (tkQ kd 11 st)).1 = 0
  · rw [h z]
  · unfold goE
    rw [tw_f z, tw_f z]
def rgP (kd pl vl : Nat → Int) (s : Nat) (st : Int × Nat × Int × Int) (h q : Hp) : Prop := ∃ b : Bool, rQ pl q (goE kd pl vl b st) ∧ ((tkQ kd 31 (tkQ kd 11 st)).1 = 0 → (b = true ↔ ∃ o : Nat, (o : Int) < (hi h 226 20).toInt ∧ (hl h 234 o).toInt = (hl h 232 (st.2.1 + 1)).toInt)) ∧ ((goE kd pl vl b st).1 = 0 → (∀ a k : Nat, (((235 ≤ a ∧ a ≤ 241) ∨ (245 ≤ a ∧ a ≤ 247)) ∨ ((a = 243 ∨ a = 244) ∧ (k : Int) ≠ 5 * s + (hi h 242 s).toInt) ∨ (a = 226 ∧ k = 12)) → hi q a k = hi h a k) ∧ (∀ k : Nat, (k : Int) ≠ (hi h 226 20).toInt → hl q 234 k = hl h 234 k) ∧ hi q 242 s = hi h 242 s + 1 ∧ hi q 226 20 = hi h 226 20 + 1 ∧ (∀ k : Nat, (k : Int) = (hi h 226 20).toInt → hl q 234 k = hl h 232 (st.2.1 + 1)) ∧ ∀ k : Nat, (k : Int) = 5 * s + (hi h 242 s).toInt → (hi q 243 k).toInt = vl (st.2.1 + 2) ∧ (hi q 244 k).toInt = vl (st.2.1 + 3))
set_option maxHeartbeats 4000000 in
theorem rq_goer (X : TX N kd pl vl) (hs : s ≤ 1) (R : RT N kd pl vl hr) (T : tI2 N st.2.1) (S : rQ pl hr st) (fz : st.1 = 0) (hk : kd st.2.1 = 11) (sd : (hi hr 226 19).toInt = (s : Int)) (c0 : 0 ≤ (hi hr 242 s).toInt) (c5 : (hi hr 242 s).toInt ≤ 5) (c20 : (hi hr 226 20).toInt = (hi hr 242 s).toInt) : Pc (if ixOK (hi hr 226 19) 2 = true then ((F_X12_roomFor n hr (hi hr 242 (Int32.toNatClampNeg (hi hr 226 19))) 5).bind (fun q22 => (if ((hi q22 226 13) : Int32) = 0 then ((F_X12_tellGoer n q22).bind (fun q25 => some q25)) else some q22))) else none) (fun q => fT hr q ∧ (((hi hr 242 s).toInt ≠ 5 ∧ rgP kd pl vl s st hr q) ∨ ((hi hr 242 s).toInt = 5 ∧ rQ pl q (fuE st)))) := by
  have f0 := lit_0
  have f5 := lit_5
  have ns := ncT (show 0 ≤ (hi hr 226 19).toInt by omega)
  have es : Int32.toNatClampNeg (hi hr 226 19) = s := by omega
  refine Pc.chk (fun _ => ?_)
  rw [es]
  refine Pc.bind (rq_room X R T S fz 11 hk (by decide)) (fun q1 h1 => ?_)
  obtain ⟨fr, alt⟩ := h1
  rcases alt with ⟨n8, Sq⟩ | ⟨e8, Sq⟩
  · rw [f5] at n8
    have T1 := tq_in X T (k := 11) (by decide)
    by_cases zf : (tkQ kd 11 st).1 = 0
    · have g1 := Sq.1.2.1
      rw [zf] at g1
      refine Pc.eq (fun _ => ?_) (fun c => by exfalso; omega)
      have e19 : hi q1 226 19 = hi hr 226 19 := fr.1 226 19 (by decide)
      have e42 : hi q1 242 s = hi hr 242 s := fr.1 242 s (by omega)
      have e1 := (tq_0 zf).2.2
      have t11 := Sq.1.2.2.1 zf
      unfold F_X12_tellGoer
      rw [e19, es, e42]
      have m1 := mlT 5 (hi hr 226 19) 5 lit_5 (by omega) (by omega)
      have a1 := adT (5 * hi hr 226 19) (hi hr 242 s) (by omega) (by omega)
      obtain ⟨g, hg⟩ : ∃ g : Nat, (hi hr 242 s).toInt = (g : Int) := ⟨(hi hr 242 s).toInt.toNat, by omega⟩
      refine Pc.bind (Q := fun q => fT hr q ∧ rgP kd pl vl s st hr q) ?_ (fun q25 h25 => Pc.ret ⟨h25.1, Or.inl ⟨n8, h25.2⟩⟩)
      refine Pc.chk (fun _ => ?_)
      refine Pc.bind (rq_must X (R.cg fr.rt) T1 Sq 31 (by decide) (by decide) (by decide)) (fun q35 h35 => ?_)
      have T2 := tq_in X T1 (k := 31) (by decide)
      have fa := fr.tr h35.1
      have e0 : twQ false (pl (tkQ kd 11 st).2.1) (tkQ kd 31 (tkQ kd 11 st)) = tkQ kd 31 (tkQ kd 11 st) := by
        unfold twQ
        rw [if_neg (fun u => absurd u.1 (by decide))]
      have q20 : hi q35 226 20 = hi hr 226 20 := fa.1 226 20 (by decide)
      refine (rq_goerL X hs (h0 := q35) (R.cg fa.rt) (K := 5 * s + g) (g := g) (by omega) t11 T2 T1 (by rw [fa.1 226 19 (by decide)]; exact sd) (by rw [q20]; omega) (by omega) (fun z => pl_lt X T2 (by rw [(tq_0 z).2.2]; exact Nat.lt_succ_self _)) (fun z w => ((Sq.2 zf).2 w).2) n q35 0 0 false ⟨fun _ _ _ => rfl, fun _ _ => rfl⟩ (by rw [e0]; exact h35.2) f0 (by omega) (fun _ => ⟨fun z => absurd z (by decide), fun ⟨o, o1, _⟩ => absurd o1 (Nat.not_lt_zero o)⟩) (fun _ => rfl)).mono (fun q hq => ?_)
      obtain ⟨b, b1, b2, b3, b4, b5, b6⟩ := hq
      refine ⟨fa.t.tr b2, b, b5, fun z => ?_, fun z => ?_⟩
      · rw [b1 z, e1]
        constructor
        · intro ⟨o, o1, o2⟩
          exact ⟨o, by omega, by rw [fa.2, fa.2] at o2; exact o2⟩
        · intro ⟨o, o1, o2⟩
          exact ⟨o, by omega, by rw [fa.2, fa.2]; exact o2⟩
      · obtain ⟨d1, d2, d3, d4, d5⟩ := b6 z
        have z1 := (tq_0 z).1
        have z2 : (tkQ kd 31 (tkQ kd 11 st)).1 = 0 := (nq_0 (nq_0 z1).1).1
        have e2 := (tq_0 z2).2.2
        have t2 : (twQ b (pl (tkQ kd 11 st).2.1) (tkQ kd 31 (tkQ kd 11 st))).2.1 = st.2.1 + 2 := by
          show (tkQ kd 31 (tkQ kd 11 st)).2.1 = _
          rw [e2, e1]
        rw [t2] at d4 d5
        refine ⟨fun a k n1 => (b3 a k (by omega)).trans (fa.1 a k (by omega)), fun k n1 => ?_, ?_, ?_, fun k hk => ?_, fun k hk => ?_⟩
        · rw [b4 k (by rw [q20]; exact n1), fa.2]
        · rw [d1, fa.1 242 s (by omega)]
        · rw [d2, q20]
        · rw [d3 k (by rw [q20]; exact hk), fa.2, e1]
        · have : k = 5 * s + g := by omega
          subst this
          exact ⟨d4, d5⟩
    · have g1 := Sq.1.2.1
      refine Pc.eq (fun c => by exfalso; omega) (fun _ => Pc.ret ⟨fr.t, Or.inl ⟨n8, false, ?_, fun z => absurd (tq_0 z).1 zf, fun z => ?_⟩⟩)
      · rw [go_f zf]; exact Sq
      · rw [go_f zf] at z; exact absurd z zf
  · have g1 := Sq.1.2.1
    have z2 : (fuE st).1 = 2 := rfl
    refine Pc.eq (fun c => by exfalso; omega) (fun _ => Pc.ret ⟨fr.t, Or.inr ⟨by omega, Sq⟩⟩)
theorem go_t {b : Bool} (z : (goE kd pl vl b st).1 = 0) : st.2.1 < (goE kd pl vl b st).2.1 := by
  have z1 := tq_0 z
  have e5 := nq_0 z1.1
  have e4 := nq_0 e5.1
  have z2 : (tkQ kd 31 (tkQ kd 11 st)).1 = 0 := e4.1
  have e3 := tq_0 z2
  have e2 := tq_0 e3.1
  have e6 : (twQ b (pl (tkQ kd 11 st).2.1) (tkQ kd 31 (tkQ kd 11 st))).2.1 = st.2.1 + 2 := by
    show (tkQ kd 31 (tkQ kd 11 st)).2.1 = _
    rw [e3.2.2, e2.2.2]
  unfold goE
  rw [z1.2.2, e5.2.2, e4.2.2, e6]
  omega
set_option maxHeartbeats 4000000 in
theorem j_goer (X : TX N kd pl vl) (Y : TN N kd vl nm) (j : JA N kd pl vl nm s hc hr st) (fz : st.1 = 0) {qc qr : Hp} (a : cgP kd pl vl st hc qc) (b : fT hr qr ∧ (((hi hr 242 s).toInt ≠ 5 ∧ rgP kd pl vl s st hr qr) ∨ ((hi hr 242 s).toInt = 5 ∧ rQ pl qr (fuE st)))) : ∃ st', JA N kd pl vl nm s qc qr st' ∧ (st'.1 = 0 → st.2.1 < st'.2.1) := by
  obtain ⟨j1, j2, j3, j4⟩ := j.2.2.2.2 fz
  obtain ⟨⟨n1, n2, n3⟩, ⟨m1, m2, m3⟩, ⟨o1, o2, o3⟩, p1⟩ := id j2
  obtain ⟨a1, a2⟩ := a
  obtain ⟨b1, b2⟩ := b
  have nmh := j.1.2.2.1
  rcases a2 with ⟨a3, a4, a5, a6, bc, a7, a8, a9⟩ | ⟨a3, a4⟩
  · rcases b2 with ⟨b3, br, b6, b7, b8⟩ | ⟨b3, -⟩
    · have T1 := tq_in X j.2.1 (k := 11) (by decide)
      -- the name that is taken
      have nam : (tkQ kd 31 (tkQ kd 11 st)).1 = 0 → st.2.1 + 1 < N ∧ kd (st.2.1 + 1) = 31 := by
        intro z
        have z1 := tq_0 z
        have e1 := (tq_0 z1.1).2.2
        have k1 := z1.2.1
        rw [e1] at k1 T1
        refine ⟨?_, k1⟩
        by_cases y : st.2.1 + 1 < N
        · exact y
        · exfalso
          have : st.2.1 + 1 = N := by have := T1.1; omega
          rw [this, X.2.1] at k1
          exact absurd k1 (by decide)
      obtain ⟨tau, ht⟩ := j3
      have bb : (tkQ kd 31 (tkQ kd 11 st)).1 = 0 → br = bc := by
        intro z
        obtain ⟨nN, n31⟩ := nam z
        have x := (a8 z).2
        have y := b7 z
        have : (bc = true ↔ br = true) := by
          rw [x, y]
          constructor
          · intro ⟨o, q1, q2⟩
            have h1 := ht o (by omega)
            refine ⟨o, by omega, ?_⟩
            rw [h1.2.2.2, nmh _ nN]
            exact (Y _ _ h1.1 nN h1.2.1 n31).mp (by rw [← h1.2.2.1]; exact q2)
          · intro ⟨o, q1, q2⟩
            have h1 := ht o (by omega)
            refine ⟨o, by omega, ?_⟩
            rw [h1.2.2.1]
            rw [h1.2.2.2, nmh _ nN] at q2
            exact (Y _ _ h1.1 nN h1.2.1 n31).mpr q2
        cases br <;> cases bc
        · rfl
        · exact absurd (this.mp rfl) (by decide)
        · exact absurd (this.mpr rfl) (by decide)
        · rfl
      have eb := go_b (pl := pl) (vl := vl) bb
      rw [eb] at b6 b8
      have i5 : tI2 N (twQ bc (pl (tkQ kd 11 st).2.1) (tkQ kd 31 (tkQ kd 11 st))).2.1 := tq_in X T1 (k := 31) (by decide)
      refine ⟨goE kd pl vl bc st, ⟨j.ctx a1 b1, tq_in X (nb_in X (nb_in X i5)) (by decide), a7, b6, fun z => ?_⟩, go_t⟩
      obtain ⟨c1, c2, c3, c4, c5, c6⟩ := b8 z
      have z1 := (tq_0 z).1
      have zn : (tkQ kd 31 (tkQ kd 11 st)).1 = 0 := (nq_0 (nq_0 z1).1).1
      obtain ⟨nN, n31⟩ := nam zn
      have f1 := lit_1
      have ad1 := adT (hi hr 242 s) 1 (by omega) (by omega)
      have ad2 := adT (hi hc 3 2) 1 (by omega) (by omega)
      have ad3 := adT (hi hr 226 20) 1 (by omega) (by omega)
      have r (x : Nat) (n : (235 ≤ x ∧ x ≤ 241) ∨ (245 ≤ x ∧ x ≤ 247)) : hi qr x = hi hr x := funext fun k => c1 x k (by omega)
      have c (x : Nat) (n : x = 4 ∨ x = 16) : hi qc x = hi hc x := funext fun k => a4 x k (by omega)
      obtain ⟨cc, hcc⟩ : ∃ cc : Nat, (hi hr 242 s).toInt = (cc : Int) := ⟨(hi hr 242 s).toInt.toNat, by omega⟩
      refine ⟨by rw [c1 226 12 (by omega)]; exact j1, ?_, ?_, fun w => ?_⟩
      · unfold CN
        rw [a4 2 13 (by omega), a5, a4 2 14 (by omega), r 237 (by omega), c3, r 245 (by omega), c4]
        exact ⟨⟨n1, n2, n3⟩, ⟨by omega, by omega, by omega⟩, ⟨o1, o2, o3⟩, by omega⟩
      · refine ⟨updP tau cc (st.2.1 + 1), fun g hg => ?_⟩
        rw [c3] at hg
        by_cases q : g = cc
        · subst q
          rw [updP_eq]
          exact ⟨nN, n31, (a8 zn).1 g (by omega), by rw [c5 g (by omega)]; exact nmh _ nN⟩
        · rw [updP_ne q, a6 g (by omega), c2 g (by omega)]
          exact ht g (by omega)
      · have t2 := two_w z1 w
        have tw := tw_w zn t2.1
        obtain ⟨d1, d2, d3, d5⟩ := j4 tw.1
        have e2 := (tq_0 zn).2.2
        have e1 := (tq_0 (tq_0 zn).1).2.2
        have t3 : (twQ bc (pl (tkQ kd 11 st).2.1) (tkQ kd 31 (tkQ kd 11 st))).2.1 = st.2.1 + 2 := by
          show (tkQ kd 31 (tkQ kd 11 st)).2.1 = _
          rw [e2, e1]
        have v := t2.2
        rw [t3] at v
        have v2 : 0 ≤ vl (st.2.1 + 3) ∧ vl (st.2.1 + 3) ≤ 4 := v.2
        refine ⟨?_, ?_, ?_, fun g hg => ?_⟩
        · rw [c 4 (by omega), r 235 (by omega), r 236 (by omega)]; exact d1
        · rw [c 16 (by omega), r 237 (by omega), r 238 (by omega), r 239 (by omega)]; exact d2
        · rw [a4 2 12 (by omega), r 245 (by omega), r 246 (by omega), r 247 (by omega)]; exact d3
        · rw [c3] at hg
          by_cases q : g = cc
          · subst q
            have k6 := c6 (5 * s + g) (by omega)
            unfold sp4
            rw [k6.1, k6.2]
            exact ⟨a9 z w g (by omega), v.1, v2⟩
          · rw [a4 15 g (by omega), c1 243 _ (by omega), c1 244 _ (by omega)]
            exact d5 g (by omega)
    · exfalso; omega
  · rcases b2 with ⟨b3, -⟩ | ⟨b3, b4⟩
    · exfalso; omega
    · exact ⟨fuE st, ⟨j.ctx a1 b1, j.2.1, a4, b4, fun z => absurd z (show ¬ (2 : Int) = 0 by decide)⟩, fun z => absurd z (show ¬ (2 : Int) = 0 by decide)⟩
end GJ
end
section
/-! A STATEMENT, of both -/
section JT
variable {N : Nat} {kd pl vl nm : Nat → Int} {s : Nat} {hc hc' hr hr' h : Hp} {st : Int × Nat × Int × Int} {n m : Nat}
theorem ExR.le : ∀ (k : Nat) (u : Bool) (d t : Nat) (r : Int × Nat), esF kd k u d t = some r → t ≤ r.2 := by
  intro k
  induction k with
  | zero => intro u d t r e; cases e
  | succ k ih =>
    intro u d t r e
    unfold esF at e
    have fin (x : Int) (e : some (x, t) = some r) : t ≤ r.2 := by
      have := Option.some.inj e
      rw [← this]
      exact Nat.le_refl t
    have go (u : Bool) (d : Nat) (e : esF kd k u d (t + 1) = some r) : t ≤ r.2 := by
      have := ih u d (t + 1) r e
      omega
    split at e
    · split at e
      · split at e
        · exact go _ _ e
        · exact fin _ e
      · split at e
        · split at e
          · split at e
            · exact go _ _ e
            · exact fin _ e
          · exact fin _ e
        · exact fin _ e
    · split at e
      · split at e
        · exact go _ _ e
        · exact fin _ e
      · split at e
        · exact fin _ e
        · split at e
          · split at e
            · exact go _ _ e
            · exact fin _ e
          · exact fin _ e
theorem sumR.le {f f' : Int} {t t' : Nat} (a : sumR kd f t f' t') : t ≤ t' := by
  by_cases fz : f = 0
  · obtain ⟨k, e⟩ := a.2 fz
    exact ExR.le k _ _ _ _ e
  · rw [(a.1 fz).2]
    exact Nat.le_refl t
theorem lwF.le : ∀ (k i : Nat) (f : Int) (t : Nat) (f' : Int) (t' : Nat), lwF kd k i f t f' t' → t ≤ t' := by
  intro k
  induction k with
  | zero => intro i f t f' t' a; exact False.elim a
  | succ k ih =>
    intro i f t f' t' a
    rcases a with ⟨-, -, a3⟩ | ⟨-, -, a3⟩ | ⟨-, -, -, -, a5⟩ | ⟨-, -, -, x1, y1, x2, y2, x3, y3, s1, s2, s3, s4⟩
    · rw [a3]; exact Nat.le_refl t
    · exact a3.le
    · rw [a5]; exact Nat.le_refl t
    · have q0 := tk_le (kd := kd) (t := t) (k := 19) (f := 0)
      have q1 := s1.le
      have q2 := tk_le (kd := kd) (t := y1) (k := 60) (f := x1)
      have q3 := s2.le
      have q4 := tk_le (kd := kd) (t := y2) (k := 20) (f := x2)
      have q5 := s3.le
      have q6 := tk_le (kd := kd) (t := y3) (k := 21) (f := x3)
      have q7 := ih _ _ _ _ _ s4
      omega
theorem pl_le (X : TX N kd pl vl) {t t' : Nat} (T' : tI2 N t') (h : t ≤ t') : pl t ≤ pl t' := by
  by_cases z : t = t'
  · rw [z]; exact Int.le_refl _
  · have := pl_lt X T' (show t < t' by omega)
    omega
def laE (kd : Nat → Int) (f1 : Int) (t1 : Nat) (st : Int × Nat × Int × Int) : Int × Nat × Int × Int := ((tkS kd 59 f1 t1).1, (tkS kd 59 f1 t1).2, st.2.2)
/-- a law: the class -/
theorem cq_law (X : TX N kd pl vl) (C : CT N kd pl vl hc) (T : tI2 N st.2.1) (S : cQ hc st) {x1 x2 : Int32} (k : Int) (hx : x1.toInt = k) (k2 : k ≠ 32) : Pc ((F_X7_take n hc x1).bind (fun q26 => ((F_X7_readLaw n q26.2 x2).bind (fun q28 => ((F_X7_take n q28 59).bind (fun q30 => some q30.2)))))) (fun q => tkK hc q ∧ fC hc q ∧ ∃ f1 t1 i, lwF kd i 0 (tkS kd 61 (tkQ kd k st).1 (tkQ kd k st).2.1).1 (tkS kd 61 (tkQ kd k st).1 (tkQ kd k st).2.1).2 f1 t1 ∧ cQ q (laE kd f1 t1 st) ∧ tI2 N t1) := by
  refine Pc.bind (cq_take X C T S k hx) (fun q1 h1 => ?_)
  have T1 := tq_in X T (k := k) k2
  refine Pc.bind (pc_law X (C.cg h1.1.tk) T1 h1.2.1.1) (fun q2 h2 => ?_)
  obtain ⟨m1, f1, t1, i, m2, m3, m4⟩ := h2
  have tk2 := h1.1.tk.tr m1.tk
  have c2 : cQ q2 (f1, t1, st.2.2) := by
    refine ⟨m2, fun z => ?_⟩
    rw [m1.1 2 6 (by decide) (by decide) (by decide) (by decide), m1.1 2 7 (by decide) (by decide) (by decide) (by decide), h1.1.1 2 6 (by decide), h1.1.1 2 7 (by decide)]
    refine S.2 ?_
    -- no fault behind the law: none ahead of it
    by_cases w : st.1 = 0
    · exact w
    · exfalso
      have e1 : tkQ kd k st = st := tq_f w
      rw [e1, tk_f w] at m4
      cases i with
      | zero => exact m4
      | succ i =>
        rcases m4 with ⟨-, y, -⟩ | ⟨y, -⟩ | ⟨y, -⟩ | ⟨y, -⟩
        · exact w (y.symm.trans z)
        · exact w y
        · exact w y
        · exact w y
  have m3' : tI2 N ((f1, t1, st.2.2) : Int × Nat × Int × Int).2.1 := m3
  refine Pc.bind (cq_take X (C.cg tk2) m3' c2 59 lit_59) (fun q3 h3 => Pc.ret ⟨tk2.tr h3.1.tk, (h1.1.c.tr m1.c).tr h3.1.c, f1, t1, i, m4, h3.2.1, m3⟩)
theorem frG.r0 {h h' : Hp} (a : frG h h') : (∀ x k, ((235 ≤ x ∧ x ≤ 247) ∨ (x = 226 ∧ k = 20)) → hi h' x k = hi h x k) ∧ ∀ k, hl h' 234 k = hl h 234 k := ⟨fun x k n => a.1 x k (by omega) (by omega), fun k => a.2 234 k⟩
/-- a law: the reference -/
theorem rq_law (X : TX N kd pl vl) (R : RT N kd pl vl hr) (T : tI2 N st.2.1) (S : rQ pl hr st) (fz : st.1 = 0) (od : (hi hr 226 12).toInt = 0) {x2 : Int32} (k : Int) (hk : kd st.2.1 = k) (k2 : k ≠ 32) : Pc ((F_X12_goesOn n hr).bind (fun q47 => ((F_X12_tellLaw n q47 x2).bind (fun q49 => some q49)))) (fun q => frG hr q ∧ ∃ f1 t1 i, lwF kd i 0 (tkS kd 61 (tkQ kd k st).1 (tkQ kd k st).2.1).1 (tkS kd 61 (tkQ kd k st).1 (tkQ kd k st).2.1).2 f1 t1 ∧ rQ pl q (laE kd f1 t1 st) ∧ tI2 N (laE kd f1 t1 st).2.1 ∧ ((laE kd f1 t1 st).1 = 0 → (hi q 226 12).toInt = 0)) := by
  refine Pc.bind (rq_goesOn X R T S fz k hk k2) (fun q1 h1 => ?_)
  have T1 := tq_in X T (k := k) k2
  refine Pc.bind (pr_law X (R.cg h1.1.rt) T1 h1.2.1 (fun _ => by rw [h1.1.op]; exact od)) (fun q2 h2 => Pc.ret ?_)
  obtain ⟨m1, f1, t1, i, m2, m3, m4, m5⟩ := h2
  have fa := h1.1.g.tr m1
  refine ⟨fa, f1, t1, i, m2, ⟨m3, fun z => ?_⟩, m4, m5⟩
  have a := S.2 fz
  rw [fa.1 226 15 (by omega) (by decide), fa.1 226 16 (by omega) (by decide)]
  refine ⟨a.1, fun w => ⟨(a.2 w).1, ?_⟩⟩
  have le1 : st.2.1 ≤ (tkQ kd k st).2.1 := tk_le
  have le2 := tk_le (kd := kd) (t := (tkQ kd k st).2.1) (k := 61) (f := (tkQ kd k st).1)
  have le3 := lwF.le _ _ _ _ _ _ m2
  have le4 := tk_le (kd := kd) (t := t1) (k := 59) (f := f1)
  have p : pl st.2.1 ≤ pl (laE kd f1 t1 st).2.1 := pl_le X m4 (show st.2.1 ≤ (laE kd f1 t1 st).2.1 by show st.2.1 ≤ (tkS kd 59 f1 t1).2; omega)
  have := (a.2 w).2
  show st.2.2.2 < pl (laE kd f1 t1 st).2.1
  omega
theorem JZ.cg' {w w' : Int} (j : JZ N kd vl nm s w hc hr) (a : fC hc hc') (b : (∀ x k, ((235 ≤ x ∧ x ≤ 247) ∨ (x = 226 ∧ k = 20)) → hi hr' x k = hi hr x k) ∧ ∀ k, hl hr' 234 k = hl hr 234 k) (o : (hi hr' 226 12).toInt = 0) (ww : w' = 0 → w = 0) : JZ N kd vl nm s w' hc' hr' := by
  have fr : fR hr (wrI hr' 226 12 (hi hr 226 12)) := by
    refine ⟨fun x k n => ?_, fun k => b.2 k⟩
    rw [hi_wrI]
    by_cases q : x = 226 ∧ k = 12
    · rw [if_pos q, q.1, q.2]
    · rw [if_neg q]; exact b.1 x k (by omega)
  have y := j.cg a fr ww
  have e (x : Nat) (n : x ≠ 226) : hi (wrI hr' 226 12 (hi hr 226 12)) x = hi hr' x := funext fun k => by rw [hi_wrI, if_neg (fun z => n z.1)]
  have e20 : hi (wrI hr' 226 12 (hi hr 226 12)) 226 20 = hi hr' 226 20 := by rw [hi_wrI, if_neg (by decide)]
  obtain ⟨-, y2, y3, y4⟩ := y
  refine ⟨o, ?_, ?_, fun z => ?_⟩
  · unfold CN at y2 ⊢
    rw [e 237 (by decide), e 242 (by decide), e 245 (by decide), e20] at y2
    exact y2
  · unfold NS at y3 ⊢
    rw [e 242 (by decide)] at y3
    exact y3
  · have y4 := y4 z
    unfold DR at y4 ⊢
    rw [e 235 (by decide), e 236 (by decide), e 237 (by decide), e 238 (by decide), e 239 (by decide), e 242 (by decide), e 243 (by decide), e 244 (by decide), e 245 (by decide), e 246 (by decide), e 247 (by decide)] at y4
    exact y4
theorem j_law (X : TX N kd pl vl) (j : JA N kd pl vl nm s hc hr st) (fz : st.1 = 0) {k : Int} {qc qr : Hp} (a : tkK hc qc ∧ fC hc qc ∧ ∃ f1 t1 i, lwF kd i 0 (tkS kd 61 (tkQ kd k st).1 (tkQ kd k st).2.1).1 (tkS kd 61 (tkQ kd k st).1 (tkQ kd k st).2.1).2 f1 t1 ∧ cQ qc (laE kd f1 t1 st) ∧ tI2 N t1) (b : frG hr qr ∧ ∃ f1 t1 i, lwF kd i 0 (tkS kd 61 (tkQ kd k st).1 (tkQ kd k st).2.1).1 (tkS kd 61 (tkQ kd k st).1 (tkQ kd k st).2.1).2 f1 t1 ∧ rQ pl qr (laE kd f1 t1 st) ∧ tI2 N (laE kd f1 t1 st).2.1 ∧ ((laE kd f1 t1 st).1 = 0 → (hi qr 226 12).toInt = 0)) (hk : kd st.2.1 = k) : ∃ st', JA N kd pl vl nm s qc qr st' ∧ (st'.1 = 0 → st.2.1 < st'.2.1) := by
  obtain ⟨a1, a2, f1, t1, i, a3, a4, -⟩ := a
  obtain ⟨b1, f2, t2, i', b2, b3, b4, b5⟩ := b
  obtain ⟨e1, e2⟩ := lwF.uniq _ _ _ _ _ _ _ _ _ b2 a3
  subst e1
  subst e2
  refine ⟨laE kd f2 t2 st, ⟨j.ctx a1 b1.t, b4, a4, b3, fun z => (j.2.2.2.2 fz).cg' a2 b1.r0 (b5 z) (fun w => w)⟩, fun z => ?_⟩
  have z1 : (tkS kd 59 f2 t2).1 = 0 := z
  have y := (tk_z z1).2.2.2
  have le1 : st.2.1 ≤ (tkQ kd k st).2.1 := tk_le
  have le2 := tk_le (kd := kd) (t := (tkQ kd k st).2.1) (k := 61) (f := (tkQ kd k st).1)
  have le3 := lwF.le _ _ _ _ _ _ b2
  show st.2.1 < (tkS kd 59 f2 t2).2
  rw [y]
  show st.2.1 < t2 + 1
  omega
theorem jd_t {k : Int} (z : (tkQ kd 59 (nbQ kd pl vl 0 100 (tkQ kd k st))).1 = 0) : st.2.1 < (tkQ kd 59 (nbQ kd pl vl 0 100 (tkQ kd k st))).2.1 := by
  have z1 := tq_0 z
  have e5 := nq_0 z1.1
  have e4 := tq_0 e5.1
  rw [z1.2.2, e5.2.2, e4.2.2]
  omega
theorem js_t {k : Int} (z : (tkQ kd 59 (nbQ kd pl vl 0 9999 (tkQ kd k st))).1 = 0) : st.2.1 < (tkQ kd 59 (nbQ kd pl vl 0 9999 (tkQ kd k st))).2.1 := by
  have z1 := tq_0 z
  have e5 := nq_0 z1.1
  have e4 := tq_0 e5.1
  rw [z1.2.2, e5.2.2, e4.2.2]
  omega
theorem jl_t (z : (lwE kd pl vl st).1 = 0) : st.2.1 < (lwE kd pl vl st).2.1 := by
  have z1 := tq_0 z
  have e6 := nq_0 z1.1
  have e5 := nq_0 e6.1
  have e4 := tq_0 e5.1
  unfold lwE
  rw [z1.2.2, e6.2.2, e5.2.2, e4.2.2]
  omega
theorem jr_t (z : (rpE kd pl vl st).1 = 0) : st.2.1 < (rpE kd pl vl st).2.1 := by
  have z1 := tq_0 z
  have e6 := nq_0 z1.1
  have e5 := nq_0 e6.1
  have e4 := tq_0 e5.1
  unfold rpE
  rw [z1.2.2, e6.2.2, e5.2.2, e4.2.2]
  omega
/-- both read one statement -/
def jtP (N : Nat) (kd pl vl nm : Nat → Int) (s : Nat) (st : Int × Nat × Int × Int) (qc qr : Hp) : Prop := ∃ st', JA N kd pl vl nm s qc qr st' ∧ (st'.1 = 0 → st.2.1 < st'.2.1)
/-- no statement begins so -/
theorem j_bad (X : TX N kd pl vl) (j : JA N kd pl vl nm s hc hr st) (fz : st.1 = 0) {qc qr : Hp} (a : frK hc qc ∧ cS qc 1 st.2.1) (b : frQ hr qr ∧ rT pl qr 1 st.2.1) : jtP N kd pl vl nm s st qc qr := by
  have z1 : ¬ (1 : Int) = 0 := by decide
  exact ⟨(1, st.2), ⟨j.ctx a.1.tk b.1.t, j.2.1, ⟨a.2, fun z => absurd z z1⟩, ⟨b.2, fun z => absurd z z1⟩, fun z => absurd z z1⟩, fun z => absurd z z1⟩
set_option maxHeartbeats 4000000 in
theorem rq_bad (X : TX N kd pl vl) (j : JA N kd pl vl nm s hc hr st) (fz : st.1 = 0) (nk : kd st.2.1 < 9 ∨ 18 < kd st.2.1) (n32 : kd st.2.1 ≠ 32) : Pc (F_X12_tellOne m hr) (fun qr => frQ hr qr ∧ rT pl qr 1 st.2.1) := by
  have f0 := lit_0
  have f1 := lit_1
  have S1 := j.2.2.2.1.1
  rw [fz] at S1
  have st11 := S1.2.2.1 rfl
  have n1 := ncT (show 0 ≤ (hi hr 226 11).toInt by omega)
  have n2 : Int32.toNatClampNeg (hi hr 226 11) = st.2.1 := by omega
  have rt := (j.1.2.1 _ j.2.1).1
  have key : ∀ k ∈ vdL, (k < 9 ∨ 18 < k) → k ≠ 32 → ¬ (20 ≤ rk k ∧ rk k ≤ 29) := by decide
  have nr := key _ (vdT X j.2.1) nk n32
  have bd (q : Hp → Option Hp) : Pc ((F_X12_fail m hr 1).bind (fun q148 => (if ((hi q148 226 13) : Int32) ≤ (0 : Int32) then q q148 else some q148))) (fun qr => frQ hr qr ∧ rT pl qr 1 st.2.1) := by
    refine Pc.bind (pr_fail j.1.2.1 j.2.1 S1 (by decide)) (fun r hr' => ?_)
    have z := hr'.2
    rw [if_pos rfl, f1] at z
    have g1 := z.2.1
    exact Pc.le (fun c => by exfalso; omega) (fun _ => Pc.ret ⟨hr'.1, z⟩)
  unfold F_X12_tellOne
  rw [n2]
  have l21 : (21 : Int32).toInt = 21 := by decide
  have l23 : (23 : Int32).toInt = 23 := by decide
  have l24 : (24 : Int32).toInt = 24 := by decide
  have l26 : (26 : Int32).toInt = 26 := by decide
  have l27 : (27 : Int32).toInt = 27 := by decide
  have l28 : (28 : Int32).toInt = 28 := by decide
  have l29 : (29 : Int32).toInt = 29 := by decide
  have l20 := lit_20
  have l22 := lit_22
  have l25 := lit_25
  have rb := rk_not _ (vdT X j.2.1)
  have sb := sbT (hi hr 229 st.2.1) 24 (by omega) (by omega)
  refine Pc.chk (fun _ => ?_)
  refine Pc.eq (fun c => by exfalso; omega) (fun _ => ?_)
  refine Pc.eq (fun c => by exfalso; omega) (fun _ => ?_)
  refine Pc.eq (fun c => by exfalso; omega) (fun _ => ?_)
  refine Pc.eq (fun c => by exfalso; omega) (fun _ => ?_)
  refine Pc.eq (fun c => by exfalso; omega) (fun _ => ?_)
  refine Pc.eq (fun c => by exfalso; omega) (fun _ => ?_)
  refine Pc.eq (fun c => by exfalso; omega) (fun _ => ?_)
  refine Pc.eq (fun c => by exfalso; omega) (fun _ => ?_)
  refine Pc.eq (fun c => by exfalso; omega) (fun _ => ?_)
  refine Pc.eq (fun c => by exfalso; omega) (fun _ => ?_)
  refine Pc.chk (fun _ => ?_)
  refine Pc.lt (fun _ => bd _) (fun c2 => ?_)
  refine Pc.chk (fun _ => ?_)
  exact Pc.le (fun c3 => by exfalso; omega) (fun _ => bd _)
end JT
end
