/-! ROPE of both -/
section RO
variable {N : Nat} {kd pl vl nm : Nat → Int} {s : Nat} {hc hr h : Hp} {st : Int × Nat × Int × Int} {n : Nat}
theorem tq_f {k : Int} (fz : st.1 ≠ 0) : tkQ kd k st = st := by
  unfold tkQ
  rw [tk_f fz]
theorem nq_f {lo up : Int} (fz : st.1 ≠ 0) : nbQ kd pl vl lo up st = st := by
  unfold nbQ
  rw [tk_f fz, if_neg (fun z => fz z.1)]
/-- a spot: the class -/
theorem cq_spot (X : TX N kd pl vl) (C : CT N kd pl vl h) (T : tI2 N st.2.1) (S : cQ h st) : Pc (F_X7_takeSpot n h) (fun q => frV h q.2 ∧ cQ q.2 (nbQ kd pl vl 0 4 (nbQ kd pl vl 0 4 st)) ∧ (0 ≤ q.1.toInt ∧ q.1.toInt ≤ 24) ∧ ((nbQ kd pl vl 0 4 (nbQ kd pl vl 0 4 st)).1 = 0 → (nbQ kd pl vl 0 4 (nbQ kd pl vl 0 4 st)).2.2.1 = 0 → q.1.toInt = vl st.2.1 + 5 * vl (st.2.1 + 1))) := by
  have f0 := lit_0
  have f4 := lit_4
  have f5 := lit_5
  unfold F_X7_takeSpot
  refine Pc.bind (cq_number X C T S (by decide)) (fun q1 h1 => ?_)
  rw [f0, f4] at h1
  have T1 := nb_in X T (lo := 0) (up := 4)
  refine Pc.bind (cq_number X (C.cg h1.1.tk) T1 h1.2.1 (by decide)) (fun q3 h3 => ?_)
  rw [f0, f4] at h3
  have r1 := h1.2.2.1
  have r3 := h3.2.2.1
  have m1 := mlT 5 q3.1 5 lit_5 (by omega) (by omega)
  have a1 := adT q1.1 (5 * q3.1) (by omega) (by omega)
  refine Pc.ret ⟨h1.1.tr h3.1, h3.2.1, ?_, fun z w => ?_⟩
  · show 0 ≤ (q1.1 + 5 * q3.1).toInt ∧ (q1.1 + 5 * q3.1).toInt ≤ 24
    omega
  · have t2 := two_w z w
    have z1 := nq_0 z
    have e := (nq_0 z1.1).2.2
    have b1 := h1.2.2.2 z1.1 t2.2.1.1 t2.2.1.2
    have b2 := h3.2.2.2 z (by rw [e]; exact t2.2.2.1) (by rw [e]; exact t2.2.2.2)
    rw [e] at b2
    show (q1.1 + 5 * q3.1).toInt = _
    omega
def rpE (kd pl vl : Nat → Int) (st : Int × Nat × Int × Int) : Int × Nat × Int × Int := tkQ kd 59 (nbQ kd pl vl 0 4 (nbQ kd pl vl 0 4 (tkQ kd 12 st)))
/-- where there is no room -/
def fuE (st : Int × Nat × Int × Int) : Int × Nat × Int × Int := (2, st.2)
def crP (kd pl vl : Nat → Int) (st : Int × Nat × Int × Int) (h q : Hp) : Prop := tkK h q ∧ (((hi h 2 14).toInt < 8 ∧ ((∀ a k, ((a = 2 ∧ k = 13) ∨ (a = 3 ∧ k = 2) ∨ a = 4 ∨ a = 15 ∨ a = 16) → hi q a k = hi h a k) ∧ ∀ k, hl q 14 k = hl h 14 k) ∧ hi q 2 14 = hi h 2 14 + 1 ∧ cQ q (rpE kd pl vl st) ∧ ((rpE kd pl vl st).1 = 0 → (rpE kd pl vl st).2.2.1 = 0 → ∃ y : Int32, (0 ≤ y.toInt ∧ y.toInt ≤ 24) ∧ y.toInt = vl (st.2.1 + 1) + 5 * vl (st.2.1 + 2) ∧ hi q 2 12 = (hi h 2 12 ||| ((1 : Int32) <<< (y &&& 31))))) ∨ (8 ≤ (hi h 2 14).toInt ∧ cQ q (fuE st)))
theorem cq_rope (X : TX N kd pl vl) (C : CT N kd pl vl hc) (T : tI2 N st.2.1) (S : cQ hc st) (fz : st.1 = 0) : Pc ((F_X7_readRope n hc).bind (fun q2 => ((F_X7_take n q2 59).bind (fun q4 => some q4.2)))) (crP kd pl vl st hc) := by
  have f8 := lit_8
  have f2 := lit_2
  -- from the TOKEN on
  have go (g : Hp) (s' : Int × Nat × Int × Int) (Tg : tI2 N s'.2.1) (tg : tkK hc g) (Sg : cQ g s') : Pc (((F_X7_take n g 12).bind (fun q2 => ((F_X7_takeSpot n q2.2).bind (fun q4 => some (wrI q4.2 2 12 (((hi q2.2 2 12) : Int32) ||| (((1 : Int32) <<< ((q4.1 : Int32) &&& 31)) : Int32)))))))) (fun q => tkK hc q ∧ (∀ a k, ¬ (a = 2 ∧ (k = 4 ∨ k = 5 ∨ k = 6 ∨ k = 7 ∨ k = 12)) → hi q a k = hi g a k) ∧ (∀ a k, hl q a k = hl g a k) ∧ cQ q (nbQ kd pl vl 0 4 (nbQ kd pl vl 0 4 (tkQ kd 12 s'))) ∧ tI2 N (nbQ kd pl vl 0 4 (nbQ kd pl vl 0 4 (tkQ kd 12 s'))).2.1 ∧ ∃ y : Int32, (0 ≤ y.toInt ∧ y.toInt ≤ 24) ∧ ((nbQ kd pl vl 0 4 (nbQ kd pl vl 0 4 (tkQ kd 12 s'))).1 = 0 → (nbQ kd pl vl 0 4 (nbQ kd pl vl 0 4 (tkQ kd 12 s'))).2.2.1 = 0 → y.toInt = vl (tkQ kd 12 s').2.1 + 5 * vl ((tkQ kd 12 s').2.1 + 1)) ∧ hi q 2 12 = (hi g 2 12 ||| ((1 : Int32) <<< (y &&& 31)))) := by
    refine Pc.bind (cq_take X (C.cg tg) Tg Sg 12 lit_12) (fun q2 h2 => ?_)
    have T1 := tq_in X Tg (k := 12) (by decide)
    refine Pc.bind (cq_spot X (C.cg (tg.tr h2.1.tk)) T1 h2.2.1) (fun q4 h4 => Pc.ret ?_)
    have e12 : hi q2.2 2 12 = hi g 2 12 := h2.1.1 2 12 (by decide)
    refine ⟨((tg.tr h2.1.tk).tr h4.1.tk).tr (tkK.w (by decide) (by decide) (by decide)), fun a k n1 => ?_, fun a k => ?_, h4.2.1.w (by decide), nb_in X (nb_in X T1), q4.1, h4.2.2.1, h4.2.2.2, ?_⟩
    · rw [hi_wrI, if_neg (by omega), h4.1.1 a k (by omega), h2.1.1 a k (by omega)]
    · rw [hl_wrI, h4.1.2, h2.1.2]
    · rw [hi_wrI, if_pos ⟨rfl, rfl⟩, e12]
  unfold F_X7_readRope
  by_cases c : (hi hc 2 14) < (8 : Int32)
  · rw [if_pos c]
    have c' := Int32.lt_iff_toInt_lt.mp c
    generalize eg : wrI hc 2 14 (hi hc 2 14 + 1) = g
    have tg : tkK hc g := by rw [← eg]; exact tkK.w (by decide) (by decide) (by decide)
    have Sg : cQ g st := by rw [← eg]; exact S.w (by decide)
    refine Pc.bind (go g st T tg Sg) (fun q hq => ?_)
    obtain ⟨a1, a2, a3, a4, a5, y, y1, y2, y3⟩ := hq
    refine Pc.bind (cq_take X (C.cg a1) a5 a4 59 lit_59) (fun r hr' => Pc.ret ⟨a1.tr hr'.1.tk, Or.inl ⟨by omega, ⟨fun a k n1 => ?_, fun k => ?_⟩, ?_, hr'.2.1, fun z w => ?_⟩⟩)
    · rw [hr'.1.1 a k (by omega), a2 a k (by omega), ← eg, hi_wrI, if_neg (by omega)]
    · rw [hr'.1.2, a3, ← eg, hl_wrI]
    · rw [hr'.1.1 2 14 (by decide), a2 2 14 (by decide), hiE eg]
    · have z1 := (tq_0 z).1
      have e1 := (tq_0 (nq_0 (nq_0 z1).1).1).2.2
      have yy := y2 z1 w
      rw [e1] at yy
      refine ⟨y, y1, yy, ?_⟩
      rw [hr'.1.1 2 12 (by decide), y3, ← eg, hi_wrI, if_neg (by decide)]
  · rw [if_neg c]
    have c' : ¬ (hi hc 2 14).toInt < (8 : Int32).toInt := fun z => c (Int32.lt_iff_toInt_lt.mpr z)
    rw [Option.bind_assoc]
    have S1 := S.1
    rw [fz] at S1
    refine Pc.bind (pc_stop S1) (fun q6 h6 => ?_)
    have S6 := h6.2
    rw [if_pos rfl, f2] at S6
    have z2 : (2 : Int) ≠ 0 := by decide
    have c6 : cQ q6 (fuE st) := ⟨S6, fun z => absurd z z2⟩
    generalize eg : wrI q6 2 14 (hi q6 2 14 + 1) = g
    have tg : tkK hc g := by rw [← eg]; exact h6.1.tk.tr (tkK.w (by decide) (by decide) (by decide))
    have Sg : cQ g (fuE st) := by rw [← eg]; exact c6.w (by decide)
    refine Pc.bind (go g (fuE st) T tg Sg) (fun q hq => ?_)
    obtain ⟨a1, a2, a3, a4, a5, -⟩ := hq
    refine Pc.bind (cq_take X (C.cg a1) a5 a4 59 lit_59) (fun r hr' => Pc.ret ⟨a1.tr hr'.1.tk, Or.inr ⟨by omega, ?_⟩⟩)
    have e : tkQ kd 59 (nbQ kd pl vl 0 4 (nbQ kd pl vl 0 4 (tkQ kd 12 (fuE st)))) = fuE st := by
      have ff : (fuE st).1 ≠ 0 := z2
      rw [tq_f (k := 12) ff, nq_f ff, nq_f ff, tq_f ff]
    rw [← e]
    exact hr'.2.1
/-- room for one more: the reference -/
theorem rq_room (X : TX N kd pl vl) (R : RT N kd pl vl h) (T : tI2 N st.2.1) (S : rQ pl h st) (fz : st.1 = 0) {x1 x2 : Int32} (k : Int) (hk : kd st.2.1 = k) (k2 : k ≠ 32) : Pc (F_X12_roomFor n h x1 x2) (fun q => frQ h q ∧ ((x1.toInt ≠ x2.toInt ∧ rQ pl q (tkQ kd k st)) ∨ (x1.toInt = x2.toInt ∧ rQ pl q (fuE st)))) := by
  have f0 := lit_0
  have f2 := lit_2
  have z2 : (2 : Int) ≠ 0 := by decide
  unfold F_X12_roomFor
  refine Pc.eq (fun c => ?_) (fun c => ?_)
  · have S1 := S.1
    rw [fz] at S1
    refine Pc.bind (pr_fail R T S1 (by decide)) (fun q hq => ?_)
    have Sq := hq.2
    rw [if_pos rfl, f2] at Sq
    have g1 := Sq.2.1
    exact Pc.eq (fun c2 => by exfalso; omega) (fun _ => Pc.ret ⟨hq.1, Or.inr ⟨c, Sq, fun z => absurd z z2⟩⟩)
  · refine Pc.eq (fun _ => ?_) (fun c2 => by have := S.1.2.1; exfalso; omega)
    exact Pc.bind (rq_goesOn X R T S fz k hk k2) (fun q hq => Pc.ret ⟨hq.1, Or.inl ⟨c, hq.2⟩⟩)
def rrP (kd pl vl : Nat → Int) (s : Nat) (st : Int × Nat × Int × Int) (h q : Hp) : Prop := fT h q ∧ (((hi h 245 s).toInt ≠ 8 ∧ ((∀ a k, ((235 ≤ a ∧ a ≤ 244) ∨ (a = 226 ∧ (k = 12 ∨ k = 20))) → hi q a k = hi h a k) ∧ ∀ k, hl q 234 k = hl h 234 k) ∧ rQ pl q (rpE kd pl vl st) ∧ ((rpE kd pl vl st).1 = 0 → hi q 245 s = hi h 245 s + 1 ∧ (∀ k : Nat, (k : Int) < (hi h 245 s).toInt → hi q 246 (8 * s + k) = hi h 246 (8 * s + k) ∧ hi q 247 (8 * s + k) = hi h 247 (8 * s + k)) ∧ ∀ k : Nat, (k : Int) = (hi h 245 s).toInt → (hi q 246 (8 * s + k)).toInt = vl (st.2.1 + 1) ∧ (hi q 247 (8 * s + k)).toInt = vl (st.2.1 + 2))) ∨ ((hi h 245 s).toInt = 8 ∧ rQ pl q (fuE st)))
def rrQ (kd pl vl : Nat → Int) (s : Nat) (st : Int × Nat × Int × Int) (h q : Hp) : Prop := fT h q ∧ ((∀ a k, ((235 ≤ a ∧ a ≤ 244) ∨ (a = 226 ∧ (k = 12 ∨ k = 20))) → hi q a k = hi h a k) ∧ ∀ k, hl q 234 k = hl h 234 k) ∧ rQ pl q (rpE kd pl vl st) ∧ ((rpE kd pl vl st).1 = 0 → hi q 245 s = hi h 245 s + 1 ∧ (∀ k : Nat, (k : Int) < (hi h 245 s).toInt → hi q 246 (8 * s + k) = hi h 246 (8 * s + k) ∧ hi q 247 (8 * s + k) = hi h 247 (8 * s + k)) ∧ ∀ k : Nat, (k : Int) = (hi h 245 s).toInt → (hi q 246 (8 * s + k)).toInt = vl (st.2.1 + 1) ∧ (hi q 247 (8 * s + k)).toInt = vl (st.2.1 + 2))
set_option maxHeartbeats 4000000 in
theorem rq_rope (X : TX N kd pl vl) (hs : s ≤ 1) (R : RT N kd pl vl hr) (T : tI2 N st.2.1) (S : rQ pl hr st) (fz : st.1 = 0) (hk : kd st.2.1 = 12) (sd : (hi hr 226 19).toInt = (s : Int)) (c0 : 0 ≤ (hi hr 245 s).toInt) (c8 : (hi hr 245 s).toInt ≤ 8) : Pc (if ixOK (hi hr 226 19) 2 = true then ((F_X12_roomFor n hr (hi hr 245 (Int32.toNatClampNeg (hi hr 226 19))) 8).bind (fun q29 => (if ((hi q29 226 13) : Int32) = 0 then ((F_X12_tellRope n q29).bind (fun q32 => some q32)) else some q29))) else none) (rrP kd pl vl s st hr) := by
  have f0 := lit_0
  have f4 := lit_4
  have f8 := lit_8
  have f1 := lit_1
  have ns := ncT (show 0 ≤ (hi hr 226 19).toInt by omega)
  have es : Int32.toNatClampNeg (hi hr 226 19) = s := by omega
  refine Pc.chk (fun _ => ?_)
  rw [es]
  refine Pc.bind (rq_room X R T S fz 12 hk (by decide)) (fun q1 h1 => ?_)
  obtain ⟨fr, alt⟩ := h1
  rcases alt with ⟨n8, Sq⟩ | ⟨e8, Sq⟩
  · rw [f8] at n8
    have T1 := tq_in X T (k := 12) (by decide)
    by_cases zf : (tkQ kd 12 st).1 = 0
    · have g1 := Sq.1.2.1
      rw [zf] at g1
      refine Pc.eq (fun _ => ?_) (fun c => by exfalso; omega)
      have e19 : hi q1 226 19 = hi hr 226 19 := fr.1 226 19 (by decide)
      have e45 : hi q1 245 s = hi hr 245 s := fr.1 245 s (by omega)
      unfold F_X12_tellRope
      rw [e19, es, e45]
      have m1 := mlT 8 (hi hr 226 19) 8 lit_8 (by omega) (by omega)
      have a1 := adT (8 * hi hr 226 19) (hi hr 245 s) (by omega) (by omega)
      have nk := ncT (show 0 ≤ (8 * hi hr 226 19 + hi hr 245 s).toInt by omega)
      generalize ek : Int32.toNatClampNeg (8 * hi hr 226 19 + hi hr 245 s) = k at nk
      refine Pc.bind (Q := rrQ kd pl vl s st hr) ?_ (fun q32 h32 => Pc.ret ?_)
      · refine Pc.chk (fun _ => ?_)
        refine Pc.bind (rq_number X (R.cg fr.rt) T1 Sq) (fun q2 h2 => ?_)
        rw [f0, f4] at h2
        have T2 := nb_in X T1 (lo := 0) (up := 4)
        refine Pc.chk (fun _ => ?_)
        generalize eg : wrI q2.2 246 k q2.1 = g
        have ft1 : fT hr g := by rw [← eg]; exact (fr.t.tr h2.1.t).tr (fT.w (by decide))
        have rg : rQ pl g (nbQ kd pl vl 0 4 (tkQ kd 12 st)) := by rw [← eg]; exact h2.2.1.w (by decide)
        refine Pc.bind (rq_number X (R.cg ft1.1) T2 rg) (fun q5 h5 => ?_)
        rw [f0, f4] at h5
        have T3 := nb_in X T2 (lo := 0) (up := 4)
        refine Pc.chk (fun _ => ?_)
        generalize ev : wrI q5.2 247 k q5.1 = v
        have ft2 : fT hr v := by rw [← ev]; exact (ft1.tr h5.1.t).tr (fT.w (by decide))
        have rv : rQ pl v (nbQ kd pl vl 0 4 (nbQ kd pl vl 0 4 (tkQ kd 12 st))) := by rw [← ev]; exact h5.2.1.w (by decide)
        refine Pc.bind (rq_must X (R.cg ft2.1) T3 rv 59 (by decide) (by decide) (by decide)) (fun q8 h8 => ?_)
        have ft3 := ft2.tr h8.1.t
        have r8 (a z : Nat) (n1 : ¬ ((a = 246 ∨ a = 247) ∧ z = k)) (n2 : ¬ (a = 226 ∧ (z = 11 ∨ z = 13 ∨ z = 14 ∨ z = 15 ∨ z = 16))) : hi q8 a z = hi hr a z := by
          rw [h8.1.1 a z (by omega), ← ev, hi_wrI, if_neg (by omega), h5.1.1 a z n2, ← eg, hi_wrI, if_neg (by omega), h2.1.1 a z n2, fr.1 a z (by omega)]
        have l8 (a z : Nat) : hl q8 a z = hl hr a z := by
          rw [h8.1.2, ← ev, hl_wrI, h5.1.2, ← eg, hl_wrI, h2.1.2, fr.2]
        have e46 : hi q8 246 k = q2.1 := by rw [h8.1.1 246 k (by omega), ← ev, hi_wrI, if_neg (by omega), h5.1.1 246 k (by omega)]; exact hiE eg
        have e47 : hi q8 247 k = q5.1 := by rw [h8.1.1 247 k (by omega)]; exact hiE ev
        have s8 := h8.2.1.2.1
        refine Pc.eq (fun c => ?_) (fun c => Pc.ret ⟨ft3, ⟨fun a z n1 => r8 a z (by omega) (by omega), fun z => l8 234 z⟩, h8.2, fun z => ?_⟩)
        · have e19' : hi q8 226 19 = hi hr 226 19 := r8 226 19 (by omega) (by omega)
          have e45' : hi q8 245 s = hi hr 245 s := r8 245 s (by omega) (by omega)
          rw [e19', es, e45']
          refine Pc.chk (fun _ => Pc.chk (fun _ => Pc.ret ⟨ft3.tr (fT.w (by decide)), ⟨fun a z n1 => ?_, fun z => ?_⟩, h8.2.w (by decide), fun z => ⟨?_, fun i il => ⟨?_, ?_⟩, fun i il => ?_⟩⟩))
          · rw [hi_wrI, if_neg (by omega)]; exact r8 a z (by omega) (by omega)
          · rw [hl_wrI]; exact l8 234 z
          · rw [hi_wrI, if_pos ⟨rfl, rfl⟩]
          · rw [hi_wrI, if_neg (by omega)]; exact r8 246 _ (by omega) (by omega)
          · rw [hi_wrI, if_neg (by omega)]; exact r8 247 _ (by omega) (by omega)
          · have z1 := (tq_0 z).1
            have e2 := (nq_0 (nq_0 z1).1).2.2
            have e1 := (tq_0 (nq_0 (nq_0 z1).1).1).2.2
            have ik : 8 * s + i = k := by omega
            rw [hi_wrI, if_neg (by omega), hi_wrI, if_neg (by omega), ik, e46, e47, h2.2.2 (nq_0 z1).1, h5.2.2 z1, e2, e1]
            exact ⟨rfl, rfl⟩
        · exfalso
          have z' : (hi q8 226 13).toInt = (rpE kd pl vl st).1 := s8
          omega
      · exact ⟨h32.1, Or.inl ⟨n8, h32.2⟩⟩
    · have g1 := Sq.1.2.1
      refine Pc.eq (fun c => by exfalso; omega) (fun _ => Pc.ret ⟨fr.t, Or.inl ⟨n8, ⟨fun a k n1 => fr.1 a k (by omega), fun k => fr.2 234 k⟩, ?_, fun z => ?_⟩⟩)
      · unfold rpE
        rw [nq_f zf, nq_f zf, tq_f zf]
        exact Sq
      · exfalso
        unfold rpE at z
        rw [nq_f zf, nq_f zf, tq_f zf] at z
        exact zf z
  · have g1 := Sq.1.2.1
    have z2 : (fuE st).1 = 2 := rfl
    refine Pc.eq (fun c => by exfalso; omega) (fun _ => Pc.ret ⟨fr.t, Or.inr ⟨by omega, Sq⟩⟩)
theorem j_rope (X : TX N kd pl vl) (j : JA N kd pl vl nm s hc hr st) (fz : st.1 = 0) {qc qr : Hp} (a : crP kd pl vl st hc qc) (b : rrP kd pl vl s st hr qr) : JA N kd pl vl nm s qc qr (rpE kd pl vl st) ∨ JA N kd pl vl nm s qc qr (fuE st) := by
  obtain ⟨j1, j2, j3, j4⟩ := j.2.2.2.2 fz
  obtain ⟨⟨n1, n2, n3⟩, ⟨m1, m2, m3⟩, ⟨o1, o2, o3⟩, p1⟩ := id j2
  obtain ⟨a1, a2⟩ := a
  obtain ⟨b1, b2⟩ := b
  rcases a2 with ⟨a3, ⟨a4, a5⟩, a6, a7, a8⟩ | ⟨a3, a4⟩
  · rcases b2 with ⟨b3, ⟨b4, b5⟩, b6, b7⟩ | ⟨b3, -⟩
    · refine Or.inl ⟨j.ctx a1 b1, tq_in X (nb_in X (nb_in X (tq_in X j.2.1 (by decide)))) (by decide), a7, b6, fun z => ?_⟩
      obtain ⟨c1, c2, c3⟩ := b7 z
      have f1 := lit_1
      have ad1 := adT (hi hr 245 s) 1 (by omega) (by omega)
      have ad2 := adT (hi hc 2 14) 1 (by omega) (by omega)
      have r (x : Nat) (n : 235 ≤ x ∧ x ≤ 244) : hi qr x = hi hr x := funext fun k => b4 x k (by omega)
      have c (x : Nat) (n : x = 4 ∨ x = 15 ∨ x = 16) : hi qc x = hi hc x := funext fun k => a4 x k (by omega)
      refine ⟨by rw [b4 226 12 (by decide)]; exact j1, ?_, ?_, fun w => ?_⟩
      · unfold CN
        rw [a4 2 13 (by decide), a4 3 2 (by decide), a6, r 237 (by decide), r 242 (by decide), c1, b4 226 20 (by decide)]
        exact ⟨⟨n1, n2, n3⟩, ⟨m1, m2, m3⟩, ⟨by omega, by omega, by omega⟩, p1⟩
      · obtain ⟨tau, ht⟩ := j3
        refine ⟨tau, fun g hg => ?_⟩
        rw [r 242 (by decide)] at hg
        rw [a5 g, b5 g]
        exact ht g hg
      · have z1 := (tq_0 z).1
        have t2 := two_w z1 w
        have e1 := (tq_0 (nq_0 (nq_0 z1).1).1).2.2
        have w0 : st.2.2.1 = 0 := t2.1
        obtain ⟨d1, d2, ⟨d3, d4⟩, d5⟩ := j4 w0
        obtain ⟨y, y1, y2, y3⟩ := a8 z w
        have v1 := t2.2.1
        have v2 := t2.2.2
        rw [e1] at v1 v2
        obtain ⟨cc, hcc⟩ : ∃ cc : Nat, (hi hr 245 s).toInt = (cc : Int) := ⟨(hi hr 245 s).toInt.toNat, by omega⟩
        have k3 := c3 cc hcc.symm
        refine ⟨?_, ?_, ⟨fun e he => ?_, fun k hk => ?_⟩, ?_⟩
        · rw [c 4 (by decide), r 235 (by decide), r 236 (by decide)]; exact d1
        · rw [c 16 (by decide), r 237 (by decide), r 238 (by decide), r 239 (by decide)]; exact d2
        · obtain ⟨yn, hyn⟩ : ∃ yn : Nat, y.toInt = (yn : Int) := ⟨y.toInt.toNat, by omega⟩
          rw [y3, or_bit _ y yn (by omega) hyn e he, d3 e he, c1]
          constructor
          · intro q
            rcases q with ⟨k, k1, k2⟩ | q
            · exact ⟨k, by omega, by rw [(c2 k k1).1, (c2 k k1).2]; exact k2⟩
            · refine ⟨cc, by omega, ?_⟩
              rw [k3.1, k3.2]
              omega
          · intro ⟨k, k1, k2⟩
            by_cases q : (k : Int) < (hi hr 245 s).toInt
            · refine Or.inl ⟨k, q, ?_⟩
              rw [(c2 k q).1, (c2 k q).2] at k2
              exact k2
            · have : k = cc := by omega
              subst this
              rw [k3.1, k3.2] at k2
              exact Or.inr (by omega)
        · rw [c1] at hk
          by_cases q : (k : Int) < (hi hr 245 s).toInt
          · rw [(c2 k q).1, (c2 k q).2]
            exact d4 k q
          · have : k = cc := by omega
            subst this
            unfold sp4
            rw [k3.1, k3.2]
            have v2' : 0 ≤ vl (st.2.1 + 2) ∧ vl (st.2.1 + 2) ≤ 4 := v2
            exact ⟨v1, v2'⟩
        · rw [c 15 (by decide), r 242 (by decide), r 243 (by decide), r 244 (by decide)]
          exact d5
    · exfalso; omega
  · rcases b2 with ⟨b3, -⟩ | ⟨b3, b4⟩
    · exfalso; omega
    · exact Or.inr ⟨j.ctx a1 b1, j.2.1, a4, b4, fun z => absurd z (show ¬ (2 : Int) = 0 by decide)⟩
end RO
