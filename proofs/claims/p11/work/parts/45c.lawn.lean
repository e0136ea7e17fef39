/-! LAWN, ROPE of both -/
theorem or_bit (x : Int32) (y : Int32) (k : Nat) (hk : k < 25) (hy : y.toInt = (k : Int)) (c : Nat) (hc : c < 25) : ((x ||| ((1 : Int32) <<< (y &&& 31))) : Int32).toBitVec.getLsbD c = true ↔ (x.toBitVec.getLsbD c = true ∨ c = k) := by
  have e : y = Int32.ofNat k := by
    apply Int32.toInt_inj.mp
    rw [hy, Int32.toInt_ofNat_of_lt (by omega)]
  subst e
  have key : ∀ k : Fin 25, ∀ c : Fin 25, ((1 : Int32) <<< (Int32.ofNat k.val &&& 31)).toBitVec.getLsbD c.val = decide (c.val = k.val) := by decide
  have z := key ⟨k, hk⟩ ⟨c, hc⟩
  show (x.toBitVec ||| ((1 : Int32) <<< (Int32.ofNat k &&& 31)).toBitVec).getLsbD c = true ↔ _
  rw [BitVec.getLsbD_or, z]
  simp
section LR4
variable {N : Nat} {kd pl vl nm : Nat → Int} {s : Nat} {hc hr h : Hp} {st : Int × Nat × Int × Int} {n : Nat}
theorem pc_lay {x1 x2 : Int32} : Pc (F_X3_lay n h 4 x1 x2) (fun q => (∀ a k, a ≠ 4 → hi q a k = hi h a k) ∧ (∀ a k, hl q a k = hl h a k) ∧ hi q 4 0 = x1 ∧ hi q 4 1 = x2) := by
  have lp : ∀ (n : Nat) (g : Hp) (l3 : Int32), (∀ a k, a ≠ 4 → hi g a k = hi h a k) → (∀ a k, hl g a k = hl h a k) → hi g 4 0 = x1 → hi g 4 1 = x2 → Pc (W_X3_lay n 17 g 4 x1 x2 l3) (fun q => (∀ a k, a ≠ 4 → hi q a k = hi h a k) ∧ (∀ a k, hl q a k = hl h a k) ∧ hi q 4 0 = x1 ∧ hi q 4 1 = x2) := by
    intro n
    induction n with
    | zero => intro g l3 a b c d; exact Pc.no
    | succ n ih =>
      intro g l3 a b c d
      rw [u_X3_lay]
      refine Pc.pos rfl ?_
      refine Pc.ite (fun _ => Pc.ret ⟨fun x k n1 => by rw [hi_wrI, if_neg (by omega)]; exact a x k n1, fun x k => b x k, by rw [hi_wrI, if_neg (by omega)]; exact c, by rw [hi_wrI, if_neg (by omega)]; exact d⟩) (fun _ => ?_)
      exact ih _ _ (fun x k n1 => by rw [hi_wrI, if_neg (by omega)]; exact a x k n1) (fun x k => b x k) (by rw [hi_wrI, if_neg (by omega)]; exact c) (by rw [hi_wrI, if_neg (by omega)]; exact d)
  unfold F_X3_lay
  refine lp n _ 0 (fun x k n1 => ?_) (fun _ _ => rfl) ?_ ?_
  · rw [hi_wrI, if_neg (by omega), hi_wrI, if_neg (by omega), hi_wrI, if_neg (by omega)]
  · rw [hi_wrI, if_neg (by decide), hi_wrI, if_neg (by decide), hi_wrI, if_pos ⟨rfl, rfl⟩]
  · rw [hi_wrI, if_neg (by decide), hi_wrI, if_pos ⟨rfl, rfl⟩]
/-- two numbers, one behind the other: none due means both are what the text says -/
theorem two_w {lo up lo' up' : Int} (z : (nbQ kd pl vl lo' up' (nbQ kd pl vl lo up st)).1 = 0) (w : (nbQ kd pl vl lo' up' (nbQ kd pl vl lo up st)).2.2.1 = 0) : st.2.2.1 = 0 ∧ (lo ≤ vl st.2.1 ∧ vl st.2.1 ≤ up) ∧ (lo' ≤ vl (st.2.1 + 1) ∧ vl (st.2.1 + 1) ≤ up') := by
  have z1 := nq_0 z
  have w1 := nq_w z w
  have w2 := nq_w z1.1 w1.1
  have e := (nq_0 z1.1).2.2
  rw [e] at w1
  exact ⟨w2.1, w2.2, w1.2⟩
/-- LAWN -/
def lwE (kd pl vl : Nat → Int) (st : Int × Nat × Int × Int) : Int × Nat × Int × Int := tkQ kd 59 (nbQ kd pl vl 2 5 (nbQ kd pl vl 2 5 (tkQ kd 9 st)))
def clP (kd pl vl : Nat → Int) (st : Int × Nat × Int × Int) (h q : Hp) : Prop := tkK h q ∧ ((∀ a k, ((a = 2 ∧ (k = 12 ∨ k = 13 ∨ k = 14)) ∨ (a = 3 ∧ k = 2) ∨ a = 15 ∨ a = 16) → hi q a k = hi h a k) ∧ ∀ k, hl q 14 k = hl h 14 k) ∧ cQ q (lwE kd pl vl st) ∧ ((lwE kd pl vl st).1 = 0 → (lwE kd pl vl st).2.2.1 = 0 → (hi q 4 0).toInt = vl (st.2.1 + 1) ∧ (hi q 4 1).toInt = vl (st.2.1 + 2))
theorem cq_lawn (X : TX N kd pl vl) (C : CT N kd pl vl hc) (T : tI2 N st.2.1) (S : cQ hc st) : Pc ((F_X7_readLawn n hc).bind (fun q2 => ((F_X7_take n q2 59).bind (fun q4 => some q4.2)))) (clP kd pl vl st hc) := by
  have f2 := lit_2
  have f5 := lit_5
  unfold F_X7_readLawn
  rw [Option.bind_assoc]
  refine Pc.bind (cq_take X C T S 9 lit_9) (fun q1 h1 => ?_)
  rw [Option.bind_assoc]
  have T1 := tq_in X T (k := 9) (by decide)
  refine Pc.bind (cq_number X (C.cg h1.1.tk) T1 h1.2.1 (by decide)) (fun q3 h3 => ?_)
  rw [Option.bind_assoc]
  rw [f2, f5] at h3
  have T2 := nb_in X T1 (lo := 2) (up := 5)
  have tk3 := h1.1.tk.tr h3.1.tk
  refine Pc.bind (cq_number X (C.cg tk3) T2 h3.2.1 (by decide)) (fun q5 h5 => ?_)
  rw [f2, f5] at h5
  rw [Option.bind_assoc]
  have T3 := nb_in X T2 (lo := 2) (up := 5)
  have tk5 := tk3.tr h5.1.tk
  refine Pc.bind pc_lay (fun q7 h7 => ?_)
  obtain ⟨l1, l2, l3, l4⟩ := h7
  have tk7 : tkK hc q7 := tk5.tr ⟨fun k => l1 18 k (by decide), fun k => l1 20 k (by decide), fun k => l1 21 k (by decide), fun k => l2 22 k⟩
  have c7 : cQ q7 (nbQ kd pl vl 2 5 (nbQ kd pl vl 2 5 (tkQ kd 9 st))) := by
    have := h5.2.1
    unfold cQ cS at this ⊢
    rw [l1 2 5 (by decide), l1 2 4 (by decide), l1 2 6 (by decide), l1 2 7 (by decide)]
    exact this
  show Pc ((F_X7_take n q7 59).bind (fun q4 => some q4.2)) (clP kd pl vl st hc)
  refine Pc.bind (cq_take X (C.cg tk7) T3 c7 59 lit_59) (fun q9 h9 => Pc.ret ⟨tk7.tr h9.1.tk, ⟨fun a k n1 => ?_, fun k => ?_⟩, h9.2.1, fun z w => ?_⟩)
  · rw [h9.1.1 a k (by omega), l1 a k (by omega), h5.1.1 a k (by omega), h3.1.1 a k (by omega), h1.1.1 a k (by omega)]
  · rw [h9.1.2, l2, h5.1.2, h3.1.2, h1.1.2]
  · have z1 := (tq_0 z).1
    have t2 := two_w z1 w
    have e1 := (tq_0 (nq_0 (nq_0 z1).1).1).2.2
    have a1 := h3.2.2.2 (nq_0 z1).1 t2.2.1.1 t2.2.1.2
    have e2 := (nq_0 (nq_0 z1).1).2.2
    have a2 := h5.2.2.2 z1 (by rw [e2]; exact t2.2.2.1) (by rw [e2]; exact t2.2.2.2)
    rw [h9.1.1 4 0 (by decide), h9.1.1 4 1 (by decide), l3, l4, a1, a2, e2, e1]
    exact ⟨rfl, rfl⟩
def rlP (kd pl vl : Nat → Int) (s : Nat) (st : Int × Nat × Int × Int) (h q : Hp) : Prop := fT h q ∧ ((∀ a k, ((237 ≤ a ∧ a ≤ 247) ∨ (a = 226 ∧ (k = 12 ∨ k = 20))) → hi q a k = hi h a k) ∧ ∀ k, hl q 234 k = hl h 234 k) ∧ rQ pl q (lwE kd pl vl st) ∧ ((lwE kd pl vl st).1 = 0 → (hi q 235 s).toInt = vl (st.2.1 + 1) ∧ (hi q 236 s).toInt = vl (st.2.1 + 2))
theorem rq_lawn (X : TX N kd pl vl) (R : RT N kd pl vl hr) (T : tI2 N st.2.1) (S : rQ pl hr st) (fz : st.1 = 0) (hk : kd st.2.1 = 9) (sd : (hi hr 226 19).toInt = (s : Int)) : Pc ((F_X12_goesOn n hr).bind (fun q3 => ((F_X12_bounded n q3 2 5).bind (fun q5 => (if ixOK (hi q3 226 19) 2 = true then ((F_X12_bounded n (wrI q5.2 235 (Int32.toNatClampNeg (hi q3 226 19)) q5.1) 2 5).bind (fun q8 => (if ixOK (hi (wrI q5.2 235 (Int32.toNatClampNeg (hi q3 226 19)) q5.1) 226 19) 2 = true then ((F_X12_must n (wrI q8.2 236 (Int32.toNatClampNeg (hi (wrI q5.2 235 (Int32.toNatClampNeg (hi q3 226 19)) q5.1) 226 19)) q8.1) 4).bind (fun q11 => some q11)) else none))) else none))))) (rlP kd pl vl s st hr) := by
  have f2 := lit_2
  have f5 := lit_5
  refine Pc.bind (rq_goesOn X R T S fz 9 hk (by decide)) (fun q3 h3 => ?_)
  have T1 := tq_in X T (k := 9) (by decide)
  refine Pc.bind (rq_number X (R.cg h3.1.rt) T1 h3.2) (fun q5 h5 => ?_)
  rw [f2, f5] at h5
  have T2 := nb_in X T1 (lo := 2) (up := 5)
  refine Pc.chk (fun _ => ?_)
  have e19 : hi q3 226 19 = hi hr 226 19 := h3.1.1 226 19 (by decide)
  have ns := ncT (show 0 ≤ (hi hr 226 19).toInt by omega)
  have es : Int32.toNatClampNeg (hi hr 226 19) = s := by omega
  have e19' (v : Int32) : hi (wrI q5.2 235 s v) 226 19 = hi hr 226 19 := by rw [hi_wrI, if_neg (by omega), h5.1.1 226 19 (by decide)]; exact e19
  rw [e19, es, e19', es]
  generalize eg : wrI q5.2 235 s q5.1 = g
  have ft1 : fT hr g := by rw [← eg]; exact (h3.1.t.tr h5.1.t).tr (fT.w (by decide))
  have rg : rQ pl g (nbQ kd pl vl 2 5 (tkQ kd 9 st)) := by rw [← eg]; exact h5.2.1.w (by decide)
  refine Pc.bind (rq_number X (R.cg ft1.1) T2 rg) (fun q8 h8 => ?_)
  rw [f2, f5] at h8
  have T3 := nb_in X T2 (lo := 2) (up := 5)
  refine Pc.chk (fun _ => ?_)
  have ft2 := (ft1.tr h8.1.t).tr (fT.w (h := q8.2) (k := s) (v := q8.1) (x := 236) (by decide))
  refine Pc.bind (rq_must X (R.cg ft2.1) T3 (h8.2.1.w (by decide)) 59 (by decide) (by decide) (by decide)) (fun q11 h11 => Pc.ret ⟨ft2.tr h11.1.t, ⟨fun a k n1 => ?_, fun k => ?_⟩, h11.2, fun z => ?_⟩)
  · rw [h11.1.1 a k (by omega), hi_wrI, if_neg (by omega), h8.1.1 a k (by omega), ← eg, hi_wrI, if_neg (by omega), h5.1.1 a k (by omega), h3.1.1 a k (by omega)]
  · rw [h11.1.2, hl_wrI, h8.1.2, ← eg, hl_wrI, h5.1.2, h3.1.2]
  · have z1 := (tq_0 z).1
    have e2 := (nq_0 (nq_0 z1).1).2.2
    have e1 := (tq_0 (nq_0 (nq_0 z1).1).1).2.2
    have a1 := h5.2.2 (nq_0 z1).1
    have a2 := h8.2.2 z1
    rw [h11.1.1 235 s (by omega), hi_wrI, if_neg (by omega), h8.1.1 235 s (by omega), hiE eg, h11.1.1 236 s (by omega), hi_wrI, if_pos ⟨rfl, rfl⟩, a1, a2, e2, e1]
    exact ⟨rfl, rfl⟩
theorem j_lawn (X : TX N kd pl vl) (j : JA N kd pl vl nm s hc hr st) {qc qr : Hp} (a : clP kd pl vl st hc qc) (b : rlP kd pl vl s st hr qr) : JA N kd pl vl nm s qc qr (lwE kd pl vl st) := by
  refine ⟨j.ctx a.1 b.1, tq_in X (nb_in X (nb_in X (tq_in X j.2.1 (by decide)))) (by decide), a.2.2.1, b.2.2.1, fun z => ?_⟩
  have z1 := (tq_0 z).1
  have z0 := (tq_0 (nq_0 (nq_0 z1).1).1).1
  obtain ⟨j1, j2, j3, j4⟩ := j.2.2.2.2 z0
  have r (x : Nat) (n : 237 ≤ x ∧ x ≤ 247) : hi qr x = hi hr x := funext fun k => b.2.1.1 x k (by omega)
  have c (x : Nat) (n : x = 15 ∨ x = 16) : hi qc x = hi hc x := funext fun k => a.2.1.1 x k (by omega)
  refine ⟨by rw [b.2.1.1 226 12 (by decide)]; exact j1, ?_, ?_, fun w => ?_⟩
  · unfold CN
    rw [a.2.1.1 2 13 (by decide), a.2.1.1 3 2 (by decide), a.2.1.1 2 14 (by decide), r 237 (by decide), r 242 (by decide), r 245 (by decide), b.2.1.1 226 20 (by decide)]
    exact j2
  · obtain ⟨tau, ht⟩ := j3
    refine ⟨tau, fun g hg => ?_⟩
    rw [r 242 (by decide)] at hg
    rw [a.2.1.2 g, b.2.1.2 g]
    exact ht g hg
  · have t2 := two_w z1 w
    have x := a.2.2.2 z w
    have y := b.2.2.2 z
    obtain ⟨-, d2⟩ := j4 t2.1
    refine ⟨⟨Int32.toInt_inj.mp (x.1.trans y.1.symm), Int32.toInt_inj.mp (x.2.trans y.2.symm)⟩, ?_⟩
    rw [c 15 (by decide), c 16 (by decide), a.2.1.1 2 12 (by decide), r 237 (by decide), r 238 (by decide), r 239 (by decide), r 242 (by decide), r 243 (by decide), r 244 (by decide), r 245 (by decide), r 246 (by decide), r 247 (by decide)]
    exact d2
end LR4
