/-! TUNE of both -/
section TU
variable {N : Nat} {kd pl vl nm : Nat → Int} {s : Nat} {hc hr h : Hp} {st : Int × Nat × Int × Int} {n : Nat}
/-- a tune, up to its OFFSET's bound -/
def tuE (kd pl vl : Nat → Int) (up : Int) (st : Int × Nat × Int × Int) : Int × Nat × Int × Int := tkQ kd 59 (nbQ kd pl vl 0 up (nbQ kd pl vl 2 6 (nbQ kd pl vl 0 4 (nbQ kd pl vl 0 4 (tkQ kd 10 st)))))
theorem nq_up {lo up up' : Int} (h : st.1 = 0 → st.2.2.1 = 0 → up = up') : nbQ kd pl vl lo up st = nbQ kd pl vl lo up' st := by
  by_cases a : st.1 = 0
  · by_cases b : st.2.2.1 = 0
    · rw [h a b]
    · unfold nbQ
      rw [if_neg (fun z => b z.2.2), if_neg (fun z => b z.2.2)]
  · rw [nq_f a, nq_f a]
/-- none due behind the BEAT: three numbers are what the text says -/
theorem three_w (z : (nbQ kd pl vl 2 6 (nbQ kd pl vl 0 4 (nbQ kd pl vl 0 4 st))).1 = 0) (w : (nbQ kd pl vl 2 6 (nbQ kd pl vl 0 4 (nbQ kd pl vl 0 4 st))).2.2.1 = 0) : st.1 = 0 ∧ st.2.2.1 = 0 ∧ (0 ≤ vl st.2.1 ∧ vl st.2.1 ≤ 4) ∧ (0 ≤ vl (st.2.1 + 1) ∧ vl (st.2.1 + 1) ≤ 4) ∧ (2 ≤ vl (st.2.1 + 2) ∧ vl (st.2.1 + 2) ≤ 6) ∧ (nbQ kd pl vl 0 4 (nbQ kd pl vl 0 4 st)).2.1 = st.2.1 + 2 := by
  have z1 := nq_0 z
  have w1 := nq_w z w
  have t2 := two_w z1.1 w1.1
  have e2 := (nq_0 z1.1).2.2
  have e1 := (nq_0 (nq_0 z1.1).1).2.2
  have e : (nbQ kd pl vl 0 4 (nbQ kd pl vl 0 4 st)).2.1 = st.2.1 + 2 := by rw [e2, e1]
  rw [e] at w1
  exact ⟨(nq_0 (nq_0 z1.1).1).1, t2.1, t2.2.1, t2.2.2, w1.2, e⟩
def ctP (kd pl vl : Nat → Int) (st : Int × Nat × Int × Int) (h q : Hp) : Prop := tkK h q ∧ (((hi h 2 13).toInt < 8 ∧ ((∀ a k, ((a = 2 ∧ (k = 12 ∨ k = 14)) ∨ (a = 3 ∧ k = 2) ∨ a = 4 ∨ a = 15) → hi q a k = hi h a k) ∧ ∀ k, hl q 14 k = hl h 14 k) ∧ hi q 2 13 = hi h 2 13 + 1 ∧ ∃ up : Int, cQ q (tuE kd pl vl up st) ∧ ((nbQ kd pl vl 2 6 (nbQ kd pl vl 0 4 (nbQ kd pl vl 0 4 (tkQ kd 10 st)))).1 = 0 → (nbQ kd pl vl 2 6 (nbQ kd pl vl 0 4 (nbQ kd pl vl 0 4 (tkQ kd 10 st)))).2.2.1 = 0 → up = vl (st.2.1 + 3) - 1 ∧ ∃ y : Nat, (y : Int) = vl (st.2.1 + 1) + 5 * vl (st.2.1 + 2) ∧ (0 < (hi q 16 y).toInt) ∧ ∀ c, c ≠ y → hi q 16 c = hi h 16 c)) ∨ (8 ≤ (hi h 2 13).toInt ∧ cQ q (fuE st)))
set_option maxHeartbeats 4000000 in
theorem cq_tune (X : TX N kd pl vl) (C : CT N kd pl vl hc) (T : tI2 N st.2.1) (S : cQ hc st) (fz : st.1 = 0) : Pc ((F_X7_readTune n hc).bind (fun q2 => ((F_X7_take n q2 59).bind (fun q4 => some q4.2)))) (ctP kd pl vl st hc) := by
  have f0 := lit_0
  have f1 := lit_1
  have f2 := lit_2
  have f6 := lit_6
  have f8 := lit_8
  have f25 := lit_25
  have go (g : Hp) (s' : Int × Nat × Int × Int) (Tg : tI2 N s'.2.1) (tg : tkK hc g) (Sg : cQ g s') : Pc (((F_X7_take n g 10).bind (fun q2 => ((F_X7_takeSpot n q2.2).bind (fun q4 => ((F_X7_takeNumber n q4.2 2 6).bind (fun q6 => ((F_X7_takeNumber n q6.2 0 (q6.1 - 1)).bind (fun q8 => (if (q4.1 : Int32) < (0 : Int32) then some q8.2 else (if (25 : Int32) ≤ (q4.1 : Int32) then some q8.2 else (if ixOK q4.1 25 = true then (if ixOK q4.1 25 = true then some (wrI (wrI q8.2 16 (Int32.toNatClampNeg q4.1) q6.1) 17 (Int32.toNatClampNeg q4.1) q8.1) else none) else none))))))))))))  (fun q => tkK hc q ∧ (∀ a k, ¬ (a = 2 ∧ (k = 4 ∨ k = 5 ∨ k = 6 ∨ k = 7)) → a ≠ 16 → a ≠ 17 → hi q a k = hi g a k) ∧ (∀ a k, hl q a k = hl g a k) ∧ ∃ up : Int, cQ q (nbQ kd pl vl 0 up (nbQ kd pl vl 2 6 (nbQ kd pl vl 0 4 (nbQ kd pl vl 0 4 (tkQ kd 10 s'))))) ∧ tI2 N (nbQ kd pl vl 0 up (nbQ kd pl vl 2 6 (nbQ kd pl vl 0 4 (nbQ kd pl vl 0 4 (tkQ kd 10 s'))))).2.1 ∧ ((nbQ kd pl vl 2 6 (nbQ kd pl vl 0 4 (nbQ kd pl vl 0 4 (tkQ kd 10 s')))).1 = 0 → (nbQ kd pl vl 2 6 (nbQ kd pl vl 0 4 (nbQ kd pl vl 0 4 (tkQ kd 10 s')))).2.2.1 = 0 → up = vl ((tkQ kd 10 s').2.1 + 2) - 1 ∧ ∃ y : Nat, (y : Int) = vl (tkQ kd 10 s').2.1 + 5 * vl ((tkQ kd 10 s').2.1 + 1) ∧ (0 < (hi q 16 y).toInt) ∧ ∀ c, c ≠ y → hi q 16 c = hi g 16 c)) := by
    refine Pc.bind (cq_take X (C.cg tg) Tg Sg 10 lit_10) (fun q2 h2 => ?_)
    have T1 := tq_in X Tg (k := 10) (by decide)
    have tk2 := tg.tr h2.1.tk
    refine Pc.bind (cq_spot X (C.cg tk2) T1 h2.2.1) (fun q4 h4 => ?_)
    have T3 := nb_in X (nb_in X T1 (lo := 0) (up := 4)) (lo := 0) (up := 4)
    have tk4 := tk2.tr h4.1.tk
    refine Pc.bind (cq_number X (C.cg tk4) T3 h4.2.1 (by decide)) (fun q6 h6 => ?_)
    rw [f2, f6] at h6
    have T4 := nb_in X T3 (lo := 2) (up := 6)
    have tk6 := tk4.tr h6.1.tk
    have b6 := h6.2.2.1
    generalize eu : (q6.1 - 1 : Int32) = u
    have fu := sbG eu rfl lit_1 (by omega) (by omega)
    refine Pc.bind (cq_number X (C.cg tk6) T4 h6.2.1 (by omega)) (fun q8 h8 => ?_)
    rw [f0] at h8
    have T5 := nb_in X T4 (lo := 0) (up := u.toInt)
    have b4 := h4.2.2.1
    refine Pc.lt (fun c => by exfalso; omega) (fun _ => Pc.le (fun c => by exfalso; omega) (fun _ => Pc.chk (fun _ => Pc.chk (fun _ => Pc.ret ?_))))
    have ny := ncT b4.1
    refine ⟨(((tk6.tr h8.1.tk).tr (tkK.w (by decide) (by decide) (by decide))).tr (tkK.w (by decide) (by decide) (by decide))), fun a k n1 n2 n3 => ?_, fun a k => ?_, u.toInt, (h8.2.1.w (by omega)).w (by omega), T5, fun z w => ⟨?_, Int32.toNatClampNeg q4.1, ?_, ?_, fun c hc' => ?_⟩⟩
    · rw [hi_wrI, if_neg (by omega), hi_wrI, if_neg (by omega), h8.1.1 a k (by omega), h6.1.1 a k (by omega), h4.1.1 a k (by omega), h2.1.1 a k (by omega)]
    · rw [hl_wrI, hl_wrI, h8.1.2, h6.1.2, h4.1.2, h2.1.2]
    · have t3 := three_w z w
      have e6 := h6.2.2.2 z (by rw [t3.2.2.2.2.2]; exact t3.2.2.2.2.1.1) (by rw [t3.2.2.2.2.2]; exact t3.2.2.2.2.1.2)
      rw [t3.2.2.2.2.2] at e6
      omega
    · have z1 := nq_0 z
      have w1 := nq_w z w
      rw [ny]
      exact h4.2.2.2 z1.1 w1.1
    · rw [hi_wrI, if_neg (by omega), hi_wrI, if_pos ⟨rfl, rfl⟩]
      omega
    · rw [hi_wrI, if_neg (by omega), hi_wrI, if_neg (by omega), h8.1.1 16 c (by omega), h6.1.1 16 c (by omega), h4.1.1 16 c (by omega), h2.1.1 16 c (by omega)]
  unfold F_X7_readTune
  by_cases c : (hi hc 2 13) < (8 : Int32)
  · rw [if_pos c]
    have c' := Int32.lt_iff_toInt_lt.mp c
    generalize eg : wrI hc 2 13 (hi hc 2 13 + 1) = g
    have tg : tkK hc g := by rw [← eg]; exact tkK.w (by decide) (by decide) (by decide)
    have Sg : cQ g st := by rw [← eg]; exact S.w (by decide)
    refine Pc.bind (go g st T tg Sg) (fun q hq => ?_)
    obtain ⟨a1, a2, a3, up, a4, a5, a6⟩ := hq
    refine Pc.bind (cq_take X (C.cg a1) a5 a4 59 lit_59) (fun r hr' => Pc.ret ⟨a1.tr hr'.1.tk, Or.inl ⟨by omega, ⟨fun a k n1 => ?_, fun k => ?_⟩, ?_, up, hr'.2.1, fun z w => ?_⟩⟩)
    · rw [hr'.1.1 a k (by omega), a2 a k (by omega) (by omega) (by omega), ← eg, hi_wrI, if_neg (by omega)]
    · rw [hr'.1.2, a3, ← eg, hl_wrI]
    · rw [hr'.1.1 2 13 (by decide), a2 2 13 (by decide) (by decide) (by decide), hiE eg]
    · have t3 := three_w z w
      have e1 := (tq_0 t3.1).2.2
      obtain ⟨u1, y, y1, y2, y3⟩ := a6 z w
      rw [e1] at u1 y1
      refine ⟨u1, y, y1, ?_, fun c hc' => ?_⟩
      · rw [hr'.1.1 16 y (by omega)]; exact y2
      · rw [hr'.1.1 16 c (by omega), y3 c hc', ← eg, hi_wrI, if_neg (by omega)]
  · rw [if_neg c]
    have c' : ¬ (hi hc 2 13).toInt < (8 : Int32).toInt := fun z => c (Int32.lt_iff_toInt_lt.mpr z)
    rw [Option.bind_assoc]
    have S1 := S.1
    rw [fz] at S1
    refine Pc.bind (pc_stop S1) (fun q6 h6 => ?_)
    have S6 := h6.2
    rw [if_pos rfl, f2] at S6
    have z2 : (2 : Int) ≠ 0 := by decide
    have c6 : cQ q6 (fuE st) := ⟨S6, fun z => absurd z z2⟩
    generalize eg : wrI q6 2 13 (hi q6 2 13 + 1) = g
    have tg : tkK hc g := by rw [← eg]; exact h6.1.tk.tr (tkK.w (by decide) (by decide) (by decide))
    have Sg : cQ g (fuE st) := by rw [← eg]; exact c6.w (by decide)
    refine Pc.bind (go g (fuE st) T tg Sg) (fun q hq => ?_)
    obtain ⟨a1, a2, a3, up, a4, a5, -⟩ := hq
    refine Pc.bind (cq_take X (C.cg a1) a5 a4 59 lit_59) (fun r hr' => Pc.ret ⟨a1.tr hr'.1.tk, Or.inr ⟨by omega, ?_⟩⟩)
    have e : tkQ kd 59 (nbQ kd pl vl 0 up (nbQ kd pl vl 2 6 (nbQ kd pl vl 0 4 (nbQ kd pl vl 0 4 (tkQ kd 10 (fuE st)))))) = fuE st := by
      have ff : (fuE st).1 ≠ 0 := z2
      rw [tq_f (k := 10) ff, nq_f ff, nq_f ff, nq_f ff, nq_f ff, tq_f ff]
    rw [← e]
    exact hr'.2.1
def rtP (kd pl vl : Nat → Int) (s : Nat) (st : Int × Nat × Int × Int) (h q : Hp) : Prop := fT h q ∧ ((∀ a k, (a = 235 ∨ a = 236 ∨ (242 ≤ a ∧ a ≤ 247) ∨ (a = 226 ∧ (k = 12 ∨ k = 20))) → hi q a k = hi h a k) ∧ ∀ k, hl q 234 k = hl h 234 k) ∧ ∃ up : Int, rQ pl q (tuE kd pl vl up st) ∧ ((nbQ kd pl vl 2 6 (nbQ kd pl vl 0 4 (nbQ kd pl vl 0 4 (tkQ kd 10 st)))).1 = 0 → (nbQ kd pl vl 2 6 (nbQ kd pl vl 0 4 (nbQ kd pl vl 0 4 (tkQ kd 10 st)))).2.2.1 = 0 → up = vl (st.2.1 + 3) - 1) ∧ ((tuE kd pl vl up st).1 = 0 → hi q 237 s = hi h 237 s + 1 ∧ (∀ k : Nat, (k : Int) < (hi h 237 s).toInt → hi q 238 (8 * s + k) = hi h 238 (8 * s + k) ∧ hi q 239 (8 * s + k) = hi h 239 (8 * s + k)) ∧ ∀ k : Nat, (k : Int) = (hi h 237 s).toInt → (hi q 238 (8 * s + k)).toInt = vl (st.2.1 + 1) ∧ (hi q 239 (8 * s + k)).toInt = vl (st.2.1 + 2))
set_option maxHeartbeats 4000000 in
theorem rq_tune (X : TX N kd pl vl) (hs : s ≤ 1) (R : RT N kd pl vl hr) (T : tI2 N st.2.1) (S : rQ pl hr st) (fz : st.1 = 0) (hk : kd st.2.1 = 10) (sd : (hi hr 226 19).toInt = (s : Int)) (c0 : 0 ≤ (hi hr 237 s).toInt) (c8 : (hi hr 237 s).toInt ≤ 8) : Pc (if ixOK (hi hr 226 19) 2 = true then ((F_X12_roomFor n hr (hi hr 237 (Int32.toNatClampNeg (hi hr 226 19))) 8).bind (fun q29 => (if ((hi q29 226 13) : Int32) = 0 then ((F_X12_tellTune n q29).bind (fun q32 => some q32)) else some q29))) else none) (fun q => fT hr q ∧ (((hi hr 237 s).toInt ≠ 8 ∧ rtP kd pl vl s st hr q) ∨ ((hi hr 237 s).toInt = 8 ∧ rQ pl q (fuE st)))) := by
  have f0 := lit_0
  have f1 := lit_1
  have f2 := lit_2
  have f4 := lit_4
  have f5 := lit_5
  have f6 := lit_6
  have f8 := lit_8
  have ns := ncT (show 0 ≤ (hi hr 226 19).toInt by omega)
  have es : Int32.toNatClampNeg (hi hr 226 19) = s := by omega
  refine Pc.chk (fun _ => ?_)
  rw [es]
  refine Pc.bind (rq_room X R T S fz 10 hk (by decide)) (fun q1 h1 => ?_)
  obtain ⟨fr, alt⟩ := h1
  rcases alt with ⟨n8, Sq⟩ | ⟨e8, Sq⟩
  · rw [f8] at n8
    have T1 := tq_in X T (k := 10) (by decide)
    by_cases zf : (tkQ kd 10 st).1 = 0
    · have g1 := Sq.1.2.1
      rw [zf] at g1
      refine Pc.eq (fun _ => ?_) (fun c => by exfalso; omega)
      have e19 : hi q1 226 19 = hi hr 226 19 := fr.1 226 19 (by decide)
      have e37 : hi q1 237 s = hi hr 237 s := fr.1 237 s (by omega)
      have e1 := (tq_0 zf).2.2
      unfold F_X12_tellTune
      rw [e19, es, e37]
      have m1 := mlT 8 (hi hr 226 19) 8 lit_8 (by omega) (by omega)
      have a1 := adT (8 * hi hr 226 19) (hi hr 237 s) (by omega) (by omega)
      have nk := ncT (show 0 ≤ (8 * hi hr 226 19 + hi hr 237 s).toInt by omega)
      generalize ek : Int32.toNatClampNeg (8 * hi hr 226 19 + hi hr 237 s) = k at nk
      refine Pc.bind (Q := rtP kd pl vl s st hr) ?_ (fun q32 h32 => Pc.ret ⟨h32.1, Or.inl ⟨n8, h32⟩⟩)
      refine Pc.chk (fun _ => ?_)
      refine Pc.bind (rq_number X (R.cg fr.rt) T1 Sq) (fun q2 h2 => ?_)
      rw [f0, f4] at h2
      have T2 := nb_in X T1 (lo := 0) (up := 4)
      refine Pc.chk (fun _ => ?_)
      generalize eg : wrI q2.2 238 k q2.1 = g
      have ft1 : fT hr g := by rw [← eg]; exact (fr.t.tr h2.1.t).tr (fT.w (by decide))
      have rg : rQ pl g (nbQ kd pl vl 0 4 (tkQ kd 10 st)) := by rw [← eg]; exact h2.2.1.w (by decide)
      refine Pc.bind (rq_number X (R.cg ft1.1) T2 rg) (fun q5 h5 => ?_)
      rw [f0, f4] at h5
      have T3 := nb_in X T2 (lo := 0) (up := 4)
      refine Pc.chk (fun _ => ?_)
      generalize ev : wrI q5.2 239 k q5.1 = v
      have ft2 : fT hr v := by rw [← ev]; exact (ft1.tr h5.1.t).tr (fT.w (by decide))
      have rv : rQ pl v (nbQ kd pl vl 0 4 (nbQ kd pl vl 0 4 (tkQ kd 10 st))) := by rw [← ev]; exact h5.2.1.w (by decide)
      refine Pc.bind (rq_number X (R.cg ft2.1) T3 rv) (fun q8 h8 => ?_)
      rw [f2, f6] at h8
      have T4 := nb_in X T3 (lo := 2) (up := 6)
      refine Pc.chk (fun _ => Pc.chk (fun _ => ?_))
      generalize ex : wrI q8.2 240 k q8.1 = x
      have ft3 : fT hr x := by rw [← ex]; exact (ft2.tr h8.1.t).tr (fT.w (by decide))
      have rx : rQ pl x (nbQ kd pl vl 2 6 (nbQ kd pl vl 0 4 (nbQ kd pl vl 0 4 (tkQ kd 10 st)))) := by rw [← ex]; exact h8.2.1.w (by decide)
      have e40 : hi x 240 k = q8.1 := hiE ex
      rw [e40]
      have beat : (nbQ kd pl vl 2 6 (nbQ kd pl vl 0 4 (nbQ kd pl vl 0 4 (tkQ kd 10 st)))).1 = 0 → (nbQ kd pl vl 2 6 (nbQ kd pl vl 0 4 (nbQ kd pl vl 0 4 (tkQ kd 10 st)))).2.2.1 = 0 → q8.1.toInt = vl (st.2.1 + 3) ∧ 2 ≤ q8.1.toInt ∧ q8.1.toInt ≤ 6 := by
        intro z w
        have t3 := three_w z w
        have y := h8.2.2 z
        rw [t3.2.2.2.2.2, e1] at y
        have b := t3.2.2.2.2.1
        rw [e1] at b
        exact ⟨y, by rw [y]; exact b.1, by rw [y]; exact b.2⟩
      have fin (u : Int32) (hu : (nbQ kd pl vl 2 6 (nbQ kd pl vl 0 4 (nbQ kd pl vl 0 4 (tkQ kd 10 st)))).1 = 0 → (nbQ kd pl vl 2 6 (nbQ kd pl vl 0 4 (nbQ kd pl vl 0 4 (tkQ kd 10 st)))).2.2.1 = 0 → u.toInt = vl (st.2.1 + 3) - 1) : Pc ((F_X12_bounded n x 0 u).bind (fun q13 => (if ixOK (8 * hi hr 226 19 + hi hr 237 s) 16 = true then ((F_X12_must n (wrI q13.2 241 k q13.1) 4).bind (fun q16 => (if ((hi q16 226 13) : Int32) = 0 then (if ixOK (hi q16 226 19) 2 = true then (if ixOK (hi q16 226 19) 2 = true then some (wrI q16 237 (Int32.toNatClampNeg (hi q16 226 19)) ((hi q16 237 (Int32.toNatClampNeg (hi q16 226 19))) + 1)) else none) else none) else some q16))) else none))) (rtP kd pl vl s st hr) := by
        refine Pc.bind (rq_number X (R.cg ft3.1) T4 rx) (fun q13 h13 => ?_)
        rw [f0] at h13
        have T5 := nb_in X T4 (lo := 0) (up := u.toInt)
        refine Pc.chk (fun _ => ?_)
        generalize ey : wrI q13.2 241 k q13.1 = y
        have ft4 : fT hr y := by rw [← ey]; exact (ft3.tr h13.1.t).tr (fT.w (by decide))
        have ry : rQ pl y (nbQ kd pl vl 0 u.toInt (nbQ kd pl vl 2 6 (nbQ kd pl vl 0 4 (nbQ kd pl vl 0 4 (tkQ kd 10 st))))) := by rw [← ey]; exact h13.2.1.w (by decide)
        refine Pc.bind (rq_must X (R.cg ft4.1) T5 ry 59 (by decide) (by decide) (by decide)) (fun q16 h16 => ?_)
        have ft5 := ft4.tr h16.1.t
        have r16 (a z : Nat) (n1 : ¬ ((238 ≤ a ∧ a ≤ 241) ∧ z = k)) (n2 : ¬ (a = 226 ∧ (z = 11 ∨ z = 13 ∨ z = 14 ∨ z = 15 ∨ z = 16))) : hi q16 a z = hi hr a z := by
          rw [h16.1.1 a z (by omega), ← ey, hi_wrI, if_neg (by omega), h13.1.1 a z n2, ← ex, hi_wrI, if_neg (by omega), h8.1.1 a z n2, ← ev, hi_wrI, if_neg (by omega), h5.1.1 a z n2, ← eg, hi_wrI, if_neg (by omega), h2.1.1 a z n2, fr.1 a z (by omega)]
        have l16 (a z : Nat) : hl q16 a z = hl hr a z := by
          rw [h16.1.2, ← ey, hl_wrI, h13.1.2, ← ex, hl_wrI, h8.1.2, ← ev, hl_wrI, h5.1.2, ← eg, hl_wrI, h2.1.2, fr.2]
        have e38 : hi q16 238 k = q2.1 := by rw [h16.1.1 238 k (by omega), ← ey, hi_wrI, if_neg (by omega), h13.1.1 238 k (by omega), ← ex, hi_wrI, if_neg (by omega), h8.1.1 238 k (by omega), ← ev, hi_wrI, if_neg (by omega), h5.1.1 238 k (by omega)]; exact hiE eg
        have e39 : hi q16 239 k = q5.1 := by rw [h16.1.1 239 k (by omega), ← ey, hi_wrI, if_neg (by omega), h13.1.1 239 k (by omega), ← ex, hi_wrI, if_neg (by omega), h8.1.1 239 k (by omega)]; exact hiE ev
        have s16 := h16.2.1.2.1
        refine Pc.eq (fun c => ?_) (fun c => Pc.ret ⟨ft5, ⟨fun a z n1 => r16 a z (by omega) (by omega), fun z => l16 234 z⟩, u.toInt, h16.2, hu, fun z => ?_⟩)
        · have e19' : hi q16 226 19 = hi hr 226 19 := r16 226 19 (by omega) (by omega)
          have e37' : hi q16 237 s = hi hr 237 s := r16 237 s (by omega) (by omega)
          rw [e19', es, e37']
          refine Pc.chk (fun _ => Pc.chk (fun _ => Pc.ret ⟨ft5.tr (fT.w (by decide)), ⟨fun a z n1 => ?_, fun z => ?_⟩, u.toInt, h16.2.w (by decide), hu, fun z => ⟨?_, fun i il => ⟨?_, ?_⟩, fun i il => ?_⟩⟩))
          · rw [hi_wrI, if_neg (by omega)]; exact r16 a z (by omega) (by omega)
          · rw [hl_wrI]; exact l16 234 z
          · rw [hi_wrI, if_pos ⟨rfl, rfl⟩]
          · rw [hi_wrI, if_neg (by omega)]; exact r16 238 _ (by omega) (by omega)
          · rw [hi_wrI, if_neg (by omega)]; exact r16 239 _ (by omega) (by omega)
          · have z1 := (tq_0 z).1
            have z2 := (nq_0 z1).1
            have z3 := (nq_0 z2).1
            have e2 := (nq_0 (nq_0 z3).1).2.2
            have ik : 8 * s + i = k := by omega
            rw [hi_wrI, if_neg (by omega), hi_wrI, if_neg (by omega), ik, e38, e39, h2.2.2 (nq_0 z3).1, h5.2.2 z3, e2, e1]
            exact ⟨rfl, rfl⟩
        · exfalso
          have z' : (hi q16 226 13).toInt = (tuE kd pl vl u.toInt st).1 := s16
          omega
      generalize eu : (q8.1 - 1 : Int32) = u
      refine Pc.le (fun c => fin 5 (fun z w => ?_)) (fun c => Pc.chk (fun _ => ?_))
      · have b := beat z w
        have fu := sbG eu rfl lit_1 (by omega) (by omega)
        omega
      · refine fin u (fun z w => ?_)
        have b := beat z w
        have fu := sbG eu rfl lit_1 (by omega) (by omega)
        omega
    · have g1 := Sq.1.2.1
      have ee : ∀ up, tuE kd pl vl up st = tkQ kd 10 st := fun up => by
        unfold tuE
        rw [nq_f zf, nq_f zf, nq_f zf, nq_f zf, tq_f zf]
      refine Pc.eq (fun c => by exfalso; omega) (fun _ => Pc.ret ⟨fr.t, Or.inl ⟨n8, fr.t, ⟨fun a k n1 => fr.1 a k (by omega), fun k => fr.2 234 k⟩, vl (st.2.1 + 3) - 1, ?_, fun _ _ => rfl, fun z => ?_⟩⟩)
      · rw [ee]; exact Sq
      · rw [ee] at z; exact absurd z zf
  · have g1 := Sq.1.2.1
    have z2 : (fuE st).1 = 2 := rfl
    refine Pc.eq (fun c => by exfalso; omega) (fun _ => Pc.ret ⟨fr.t, Or.inr ⟨by omega, Sq⟩⟩)
theorem j_tune (X : TX N kd pl vl) (j : JA N kd pl vl nm s hc hr st) (fz : st.1 = 0) {qc qr : Hp} (a : ctP kd pl vl st hc qc) (b : fT hr qr ∧ (((hi hr 237 s).toInt ≠ 8 ∧ rtP kd pl vl s st hr qr) ∨ ((hi hr 237 s).toInt = 8 ∧ rQ pl qr (fuE st)))) : ∃ st', JA N kd pl vl nm s qc qr st' ∧ (st'.1 = 0 → st.2.1 < st'.2.1) := by
  obtain ⟨j1, j2, j3, j4⟩ := j.2.2.2.2 fz
  obtain ⟨⟨n1, n2, n3⟩, ⟨m1, m2, m3⟩, ⟨o1, o2, o3⟩, p1⟩ := id j2
  obtain ⟨a1, a2⟩ := a
  obtain ⟨b1, b2⟩ := b
  rcases a2 with ⟨a3, ⟨a4, a5⟩, a6, up, a7, a8⟩ | ⟨a3, a4⟩
  · rcases b2 with ⟨b3, -, ⟨b4, b5⟩, up', b6, b7, b8⟩ | ⟨b3, -⟩
    · have eu : tuE kd pl vl up' st = tuE kd pl vl up st := by
        unfold tuE
        rw [nq_up (up := up') (up' := up) (fun z w => (b7 z w).trans (a8 z w).1.symm)]
      rw [eu] at b6 b8
      have i5 : tI2 N (nbQ kd pl vl 2 6 (nbQ kd pl vl 0 4 (nbQ kd pl vl 0 4 (tkQ kd 10 st)))).2.1 := nb_in X (nb_in X (nb_in X (tq_in X j.2.1 (by decide))))
      refine ⟨tuE kd pl vl up st, ⟨j.ctx a1 b1, tq_in X (nb_in X i5) (by decide), a7, b6, fun z => ?_⟩, fun z => ?_⟩
      · obtain ⟨c1, c2, c3⟩ := b8 z
        have f1 := lit_1
        have ad1 := adT (hi hr 237 s) 1 (by omega) (by omega)
        have ad2 := adT (hi hc 2 13) 1 (by omega) (by omega)
        have r (x : Nat) (n : x = 235 ∨ x = 236 ∨ (242 ≤ x ∧ x ≤ 247)) : hi qr x = hi hr x := funext fun k => b4 x k (by omega)
        have c (x : Nat) (n : x = 4 ∨ x = 15) : hi qc x = hi hc x := funext fun k => a4 x k (by omega)
        refine ⟨by rw [b4 226 12 (by decide)]; exact j1, ?_, ?_, fun w => ?_⟩
        · unfold CN
          rw [a6, a4 3 2 (by decide), a4 2 14 (by decide), c1, r 242 (by decide), r 245 (by decide), b4 226 20 (by decide)]
          exact ⟨⟨by omega, by omega, by omega⟩, ⟨m1, m2, m3⟩, ⟨o1, o2, o3⟩, p1⟩
        · obtain ⟨tau, ht⟩ := j3
          refine ⟨tau, fun g hg => ?_⟩
          rw [r 242 (by decide)] at hg
          rw [a5 g, b5 g]
          exact ht g hg
        · have z1 := (tq_0 z).1
          have w1 := nq_w z1 w
          have z2 := (nq_0 z1).1
          have t3 := three_w z2 w1.1
          have e1 := (tq_0 t3.1).2.2
          obtain ⟨-, y, y1, y2, y3⟩ := a8 z2 w1.1
          have w0 : st.2.2.1 = 0 := t3.2.1
          obtain ⟨d1, ⟨d2, d3⟩, d4, d5⟩ := j4 w0
          have v1 := t3.2.2.1
          have v2 := t3.2.2.2.1
          rw [e1] at v1 v2
          have v2' : 0 ≤ vl (st.2.1 + 2) ∧ vl (st.2.1 + 2) ≤ 4 := v2
          obtain ⟨cc, hcc⟩ : ∃ cc : Nat, (hi hr 237 s).toInt = (cc : Int) := ⟨(hi hr 237 s).toInt.toNat, by omega⟩
          have k3 := c3 cc hcc.symm
          refine ⟨?_, ⟨fun e he => ?_, fun k hk => ?_⟩, ?_, ?_⟩
          · rw [c 4 (by decide), r 235 (by decide), r 236 (by decide)]; exact d1
          · rw [c1]
            by_cases q : e = y
            · subst q
              exact ⟨fun _ => ⟨cc, by omega, by rw [k3.1, k3.2]; exact y1⟩, fun _ => y2⟩
            · rw [y3 e q, d2 e he]
              constructor
              · intro ⟨k, k1, k2⟩
                exact ⟨k, by omega, by rw [(c2 k k1).1, (c2 k k1).2]; exact k2⟩
              · intro ⟨k, k1, k2⟩
                by_cases u : (k : Int) < (hi hr 237 s).toInt
                · refine ⟨k, u, ?_⟩
                  rw [(c2 k u).1, (c2 k u).2] at k2
                  exact k2
                · exfalso
                  have : k = cc := by omega
                  subst this
                  rw [k3.1, k3.2] at k2
                  omega
          · rw [c1] at hk
            by_cases q : (k : Int) < (hi hr 237 s).toInt
            · rw [(c2 k q).1, (c2 k q).2]
              exact d3 k q
            · have : k = cc := by omega
              subst this
              unfold sp4
              rw [k3.1, k3.2]
              exact ⟨v1, v2'⟩
          · rw [a4 2 12 (by decide), r 245 (by decide), r 246 (by decide), r 247 (by decide)]
            exact d4
          · rw [c 15 (by decide), r 242 (by decide), r 243 (by decide), r 244 (by decide)]
            exact d5
      · have z1 := tq_0 z
        have e5 := nq_0 z1.1
        have e4 := nq_0 e5.1
        have e3 := nq_0 e4.1
        have e2 := nq_0 e3.1
        have e1 := tq_0 e2.1
        show st.2.1 < (tuE kd pl vl up st).2.1
        unfold tuE
        rw [z1.2.2, e5.2.2, e4.2.2, e3.2.2, e2.2.2, e1.2.2]
        omega
    · exfalso; omega
  · rcases b2 with ⟨b3, -⟩ | ⟨b3, b4⟩
    · exfalso; omega
    · exact ⟨fuE st, ⟨j.ctx a1 b1, j.2.1, a4, b4, fun z => absurd z (show ¬ (2 : Int) = 0 by decide)⟩, fun z => absurd z (show ¬ (2 : Int) = 0 by decide)⟩
end TU
