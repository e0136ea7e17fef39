/-! READING: a law -/
theorem vpb0 : (vp_nar .boolean (0 : Int32)) = 0 := by decide
section LW
variable {s : Nat} {hC : Hp}
/-- an expression, fault or not -/
theorem sr_exx {n : Nat} {h : Hp} (hn : 3000 ≤ n) (hs : s ≤ 1) (j : jL s hC h) : Ok (F_X12_expression n h) (fun q => jL s hC q ∧ hi q 226 39 = hi h 226 39 ∧ (hi h 226 11).toInt ≤ (hi q 226 11).toInt ∧ ((hi q 226 13).toInt = 0 → (hi h 226 13).toInt = 0) ∧ ((hi h 226 13).toInt = 0 → ∃ c0 : Nat, (hi h 226 45).toInt = c0 ∧ xR c0 h q)) := by
  by_cases fz : (hi h 226 13).toInt = 0
  · refine (sr_ex hn hs j fz).mono (fun q hq => ?_)
    obtain ⟨jq, c0, hc, x⟩ := hq
    exact ⟨jq, x.1.1 226 39 rfl, x.2.2.1.2.2, fun _ => fz, fun _ => ⟨c0, hc, x⟩⟩
  · obtain ⟨n, rfl⟩ : ∃ m, n = m + 1 := ⟨n - 1, by omega⟩
    unfold F_X12_expression
    have r (k : Nat) (hk : k ≠ 49) : hi (wrI h 226 49 0) 226 k = hi h 226 k := by rw [hi_wrI, if_neg (by omega)]
    rw [u_X12_expression]
    refine Ok.pos rfl ?_
    refine Ok.neg (by decide) ?_
    refine Ok.eq (fun c1 => ?_) (fun _ => ?_)
    · rw [r 13 (by decide), lit_0] at c1
      exact absurd c1 fz
    · refine Ok.ret ⟨?_, r 39 (by decide), by rw [r 11 (by decide)]; exact Int.le_refl _, fun q => by rw [r 13 (by decide)] at q; exact q, fun q => absurd q fz⟩
      obtain ⟨⟨⟨b1, b2⟩, ⟨b3, b4⟩, b5, b6, b7, b8⟩, g⟩ := j
      have ra (a k : Nat) (hk : ¬ (a = 226 ∧ k = 49)) : hi (wrI h 226 49 0) a k = hi h a k := by rw [hi_wrI, if_neg hk]
      refine ⟨⟨⟨fun a k q => ?_, fun a k q => b2 a k q⟩, ⟨by rw [r 2 (by decide)]; exact b3, by rw [r 19 (by decide)]; exact b4⟩, tI_w b5 (by decide) (by decide) (by decide), ?_, by rw [r 45 (by decide), r 11 (by decide)]; exact b7, by rw [r 39 (by decide)]; exact b8⟩, fun z => ?_⟩
      · rw [ra a k (by unfold frB at q; omega)]
        exact b1 a k q
      · unfold cnB
        rw [ra 237 s (by omega), ra 242 s (by omega), ra 226 20 (by omega), ra 245 s (by omega)]
        exact b6
      · rw [r 13 (by decide)] at z
        exact absurd z fz
/-- the law is laid down -/
theorem law_set {q : Hp} (hs : s ≤ 1) (j : jL s hC q) (fz : (hi q 226 13).toInt = 0) {i : Nat} (i0 : 4 * s ≤ i) (i1 : i < 4 * s + 4) {l2 : Int32} (c : cuO s l2.toInt q) (ac : 4 * ((hi q 226 39).toInt - 130 * s) ≤ (hi q 226 11).toInt) : jR s hC (wrI (wrI q 250 i l2) 251 i (hi q 226 39)) := by
  obtain ⟨⟨⟨b1, b2⟩, ⟨b3, b4⟩, b5, b6, b7, b8⟩, g⟩ := j
  obtain ⟨g1, g2, g3, g5, g6⟩ := g fz
  generalize eq : wrI (wrI q 250 i l2) 251 i (hi q 226 39) = r
  have rr (a z : Nat) (h1 : ¬ (a = 250 ∧ z = i)) (h2 : ¬ (a = 251 ∧ z = i)) : hi r a z = hi q a z := by rw [← eq, hi_wrI, if_neg h2, hi_wrI, if_neg h1]
  have r0 : hi r 250 i = l2 := by rw [← eq, hi_wrI, if_neg (by omega), hi_wrI, if_pos ⟨rfl, rfl⟩]
  have r1 : hi r 251 i = hi q 226 39 := by rw [← eq, hi_wrI, if_pos ⟨rfl, rfl⟩]
  have r2 (z : Nat) : hi r 226 z = hi q 226 z := rr 226 z (by omega) (by omega)
  have ro (b : Nat) (o : obO s q b) : obO s r b := o.cg (fun a k h1 h2 => rr a k (by omega) (by omega))
  refine ⟨⟨⟨fun a z w => ?_, fun a z w => ?_⟩, ⟨by rw [r2]; exact b3, by rw [r2]; exact b4⟩, ?_, ?_, by rw [r2, r2]; exact b7, by rw [r2]; exact b8⟩, fun z => ⟨by rw [r2]; exact g1, by rw [r2, rr 242 s (by omega) (by omega)]; exact g2, by rw [r2, r2]; exact g3, by rw [r2, r2]; exact ac, fun w => (g5 (by rw [r2] at w; exact w)).cg (fun a k h1 h2 => rr a k (by omega) (by omega)), fun i' h1 h2 => ?_⟩⟩
  · rw [rr a z (by unfold frB at w; omega) (by unfold frB at w; omega)]
    exact b1 a z w
  · rw [← eq]
    exact b2 a z w
  · show (0 ≤ (hi r 226 11).toInt ∧ (hi r 226 11).toInt ≤ 400) ∧ 0 ≤ (hi r 226 13).toInt ∧ 0 ≤ (hi r 226 15).toInt
    rw [r2, r2, r2]
    exact b5
  · unfold cnB
    rw [rr 237 s (by omega) (by omega), rr 242 s (by omega) (by omega), r2, rr 245 s (by omega) (by omega)]
    exact b6
  · rw [r2, r2]
    by_cases e : i' = i
    · subst e
      rw [r0, r1]
      refine Or.inr ⟨c.1, Int.le_refl _, fun b h3 h4 => ?_⟩
      rw [rr 256 b (by omega) (by omega)]
      exact ⟨ro b (c.2.2 b h3 h4).1, (c.2.2 b h3 h4).2⟩
    · rw [rr 250 i' (by omega) (by omega), rr 251 i' (by omega) (by omega)]
      rcases g6 i' h1 h2 with w | ⟨w1, w2, w3⟩
      · exact Or.inl w
      · refine Or.inr ⟨w1, w2, fun b h3 h4 => ?_⟩
        rw [rr 256 b (by omega) (by omega)]
        exact ⟨ro b (w3 b h3 h4).1, (w3 b h3 h4).2⟩
theorem jL.side {h : Hp} (j : jL s hC h) (hs : s ≤ 1) : ixOK (hi h 226 19) 2 = true ∧ Int32.toNatClampNeg (hi h 226 19) = s := by
  have a := j.1.2.1.2
  have b := ncT (show 0 ≤ (hi h 226 19).toInt by omega)
  exact ⟨ixT (by omega) (by omega), by omega⟩
/-- the last branch -/
theorem law_end {n : Nat} (hn : 3000 ≤ n) (hs : s ≤ 1) {h : Hp} {l1 l2 : Int32} (j : jL s hC h) (b1 : (hi h 226 39).toInt ≤ 130 * s + 101) (k0 : 0 ≤ l1.toInt) (k1 : l1.toInt < 4) (cu : (hi h 226 13).toInt = 0 → 4 * ((hi h 226 39).toInt - 130 * s) + 2 ≤ (hi h 226 11).toInt ∧ cuO s l2.toInt h) {T0 : Int} {Z0 : Prop} (t0 : T0 ≤ (hi h 226 11).toInt) (z0 : (hi h 226 13).toInt = 0 → Z0) : Ok (if ixOK (hi h 226 39) 260 = true then ((F_X12_term n (wrI h 252 (Int32.toNatClampNeg (hi h 226 39)) 0)).bind (fun q3 => ((F_X12_must n q3 4).bind (fun q5 => (if ((hi q5 226 13) : Int32) ≤ 0 then (if ixOK ((4 * (hi q5 226 19)) + l1) 8 = true then (if ixOK ((4 * (hi (wrI q5 250 (Int32.toNatClampNeg ((4 * (hi q5 226 19)) + l1)) l2) 226 19)) + l1) 8 = true then some (wrI (wrI q5 250 (Int32.toNatClampNeg ((4 * (hi q5 226 19)) + l1)) l2) 251 (Int32.toNatClampNeg ((4 * (hi (wrI q5 250 (Int32.toNatClampNeg ((4 * (hi q5 226 19)) + l1)) l2) 226 19)) + l1)) (hi (wrI q5 250 (Int32.toNatClampNeg ((4 * (hi q5 226 19)) + l1)) l2) 226 39)) else none) else none) else some q5))))) else none) (fun q => jR s hC q ∧ T0 ≤ (hi q 226 11).toInt ∧ ((hi q 226 13).toInt = 0 → Z0)) := by
  have b8 := j.1.2.2.2.2.2
  have nk := ncT (show 0 ≤ (hi h 226 39).toInt by omega)
  have f0 := lit_0
  have im : ixOK (hi h 226 39) 260 = true := ixT (by omega) (by omega)
  refine Ok.pos im ?_
  generalize ek : Int32.toNatClampNeg (hi h 226 39) = k
  rw [ek] at nk
  have j1 := j.wb hs (v := 0) (a := 252) (by decide) (by decide) nk
  have cw (c : cuO s l2.toInt h) := c.wb (v := 0) (a := 252) (by decide) (by decide) nk
  generalize eg : wrI h 252 k 0 = g at j1 cw
  have g2 (z : Nat) : hi g 226 z = hi h 226 z := hiA eg 226 z (by decide)
  refine Ok.bind (sr_term hn hs j1 (by rw [g2]; omega)) (fun q hq => ?_)
  obtain ⟨jq, q39, qt, qf⟩ := hq
  rw [g2] at q39 qt qf
  rw [g2] at qf
  refine Ok.bind (sr_must jq.1.2.2.1) (fun r hr => ?_)
  have jr := jq.p hr.1
  have m1 := hr.1.2.2.2.1
  have tr := jr.1.2.2.1
  have r39 : hi r 226 39 = hi q 226 39 := hr.1.1 226 39 (by decide)
  refine Ok.le (fun c1 => ?_) (fun c1 => ?_)
  · have fz : (hi r 226 13).toInt = 0 := by have := tr.2.1; omega
    have y1 := hr.2 fz
    have y2 := qf y1.1
    have y3 := cu y2.1
    have c2 : cuO s l2.toInt q := y2.2.2 _ (cw y3.2) (fun k' hk' h3 => by
      rw [g2 39] at hk'
      rw [show k' = k by omega, hiE eg, vpb0] at h3
      exact absurd lit_0 h3)
    have j19 := jr.1.2.1.2
    have f4 := lit_4
    have a1 := mlT 4 (hi r 226 19) 4 lit_4 (by omega) (by omega)
    have a2 := adT (4 * hi r 226 19) l1 (by omega) (by omega)
    have ni := ncT (show 0 ≤ (4 * hi r 226 19 + l1 : Int32).toInt by omega)
    have im2 : ixOK (4 * hi r 226 19 + l1) 8 = true := ixT (by omega) (by omega)
    refine Ok.pos im2 ?_
    have e19 (i : Nat) (v : Int32) : hi (wrI r 250 i v) 226 19 = hi r 226 19 := by rw [hi_wrI, if_neg (by omega)]
    have e39 (i : Nat) (v : Int32) : hi (wrI r 250 i v) 226 39 = hi r 226 39 := by rw [hi_wrI, if_neg (by omega)]
    rw [e19, e39]
    refine Ok.pos im2 ?_
    refine Ok.ret ⟨law_set hs jr fz (by omega) (by omega) (c2.p hr.1) (by rw [r39]; omega), ?_, fun _ => z0 y2.1⟩
    rw [hi_wrI, if_neg (by omega), hi_wrI, if_neg (by omega)]
    omega
  · refine Ok.ret ⟨⟨jr.1, fun z => by omega⟩, by omega, fun z => by omega⟩
set_option maxHeartbeats 8000000 in
theorem sr_lawL (hs : s ≤ 1) {l1 l2 : Int32} (k0 : 0 ≤ l1.toInt) (k1 : l1.toInt < 4) {T0 : Int} {Z0 : Prop} : ∀ n : Nat, ∀ (h : Hp) (l3 : Int32), jL s hC h → (hi h 226 39).toInt ≤ 130 * s + 100 → ((hi h 226 13).toInt = 0 → 4 * ((hi h 226 39).toInt - 130 * s) + 2 ≤ (hi h 226 11).toInt ∧ cuO s l2.toInt h) → T0 ≤ (hi h 226 11).toInt → ((hi h 226 13).toInt = 0 → Z0) → 0 ≤ l3.toInt → l3.toInt ≤ 4 → (3000 : Int) + (6 - l3.toInt) < n → Ok (W_X12_tellLaw n 12 h l1 l2 l3) (fun q => jR s hC q ∧ T0 ≤ (hi q 226 11).toInt ∧ ((hi q 226 13).toInt = 0 → Z0)) := by
  intro n
  induction n with
  | zero => intro h l3 j a b c d e f g; exfalso; omega
  | succ n ih =>
    intro h l3 j b1 cu t0 z0 l0 l4 hn
    have f0 := lit_0
    have f1 := lit_1
    have f4 := lit_4
    have t := j.1.2.2.1
    have t1 := t.1
    have b8 := j.1.2.2.2.2.2
    have a45 := j.1.2.2.2.2.1
    rw [u_X12_tellLaw]
    refine Ok.pos rfl ?_
    refine Ok.eq (fun c1 => ?_) (fun c1 => law_end (by omega) hs j (by omega) k0 k1 cu t0 z0)
    have fz : (hi h 226 13).toInt = 0 := by omega
    obtain ⟨cu1, cu2⟩ := cu fz
    refine Ok.bind (sr_is t) (fun q10 hq10 => ?_)
    rw [hq10.1]
    refine Ok.ite (fun _ => law_end (by omega) hs j (by omega) k0 k1 cu t0 z0) (fun _ => ?_)
    refine Ok.eq (fun c3 => ?_) (fun c3 => ?_)
    · refine Ok.bind (sr_fail t (by decide)) (fun q hq => ?_)
      have jq := j.p hq.1
      have m := hq.1.2.2.2.1
      refine Ok.le (fun c4 => ?_) (fun _ => Ok.ret ⟨⟨jq.1, fun z => absurd z hq.2.1⟩, by omega, fun z => absurd z hq.2.1⟩)
      have := jq.1.2.2.1.2.1
      exact absurd (show (hi q 226 13).toInt = 0 by omega) hq.2.1
    refine Ok.le (fun _ => ?_) (fun c4 => by omega)
    have al := adT l3 1 (by omega) (by omega)
    have L0 : 0 ≤ (l3 + 1).toInt := by omega
    have L4 : (l3 + 1).toInt ≤ 4 := by omega
    have L5 : (3000 : Int) + (6 - (l3 + 1).toInt) < n := by omega
    refine Ok.bind (sr_goesOn t) (fun q hq => ?_)
    have jq := j.p hq.1
    have cq := cu2.p hq.1
    have m1 := hq.1.2.2.2.1
    have q39 : hi q 226 39 = hi h 226 39 := hq.1.1 226 39 (by decide)
    have nk := ncT (show 0 ≤ (hi h 226 39).toInt by omega)
    have im : ixOK (hi h 226 39) 260 = true := ixT (by omega) (by omega)
    rw [q39]
    refine Ok.pos im ?_
    generalize ek : Int32.toNatClampNeg (hi h 226 39) = k
    rw [ek] at nk
    have nkq : (k : Int) = (hi q 226 39).toInt := by rw [q39]; exact nk
    have j2 := jq.wb hs (v := 1) (a := 252) (by decide) (by decide) nkq
    have c2 := cq.wb (v := 1) (a := 252) (by decide) (by decide) nkq
    generalize eg2 : wrI q 252 k 1 = g2 at j2 c2
    have g2s (z : Nat) : hi g2 226 z = hi q 226 z := hiA eg2 226 z (by decide)
    rw [g2s 39, q39, ek]
    refine Ok.pos im ?_
    rw [g2s 45]
    have j3 := j2.wb hs (v := hi q 226 45) (a := 253) (by decide) (by decide) (by rw [g2s]; exact nkq)
    have c3' := c2.wb (v := hi q 226 45) (a := 253) (by decide) (by decide) (by rw [g2s]; exact nkq)
    generalize eg3 : wrI g2 253 k (hi q 226 45) = g3 at j3 c3'
    have g3s (z : Nat) : hi g3 226 z = hi q 226 z := (hiA eg3 226 z (by decide)).trans (g2s z)
    refine Ok.bind (sr_exx (by omega) hs j3) (fun r hr => ?_)
    obtain ⟨jr, r39, rt, rf, rx⟩ := hr
    rw [g3s] at r39 rt rf rx
    rw [g3s] at rx
    refine Ok.bind (sr_must jr.1.2.2.1) (fun u hu => ?_)
    have ju := jr.p hu.1
    have m2 := hu.1.2.2.2.1
    have u39 : hi u 226 39 = hi h 226 39 := (hu.1.1 226 39 (by decide)).trans (r39.trans q39)
    rw [u39, ek]
    refine Ok.pos im ?_
    have nku : (k : Int) = (hi u 226 39).toInt := by rw [u39]; exact nk
    have j4 := ju.wb hs (v := hi u 226 45) (a := 254) (by decide) (by decide) nku
    have cw4 (f : Int) (c : cuO s f u) := c.wb (v := hi u 226 45) (a := 254) (by decide) (by decide) nku
    generalize eg4 : wrI u 254 k (hi u 226 45) = g4 at j4 cw4
    have g4s (z : Nat) : hi g4 226 z = hi u 226 z := hiA eg4 226 z (by decide)
    have tl (w : Hp) (jw : jL s hC w) (w39 : hi w 226 39 = hi h 226 39) (wt : (hi u 226 11).toInt ≤ (hi w 226 11).toInt) (wf : (hi w 226 13).toInt = 0 → (hi u 226 13).toInt = 0 ∧ ∃ c1 : Nat, (hi u 226 45).toInt = c1 ∧ xR c1 g4 w) : Ok ((F_X12_must n w 31).bind (fun q41 => ((F_X12_term n q41).bind (fun q43 => ((F_X12_must n q43 32).bind (fun q45 => W_X12_tellLaw n 12 q45 l1 l2 (l3 + 1))))))) (fun q => jR s hC q ∧ T0 ≤ (hi q 226 11).toInt ∧ ((hi q 226 13).toInt = 0 → Z0)) := by
      refine Ok.bind (sr_must jw.1.2.2.1) (fun x hx => ?_)
      have jx := jw.p hx.1
      have m3 := hx.1.2.2.2.1
      have x39 : hi x 226 39 = hi h 226 39 := (hx.1.1 226 39 (by decide)).trans w39
      refine Ok.bind (sr_term (by omega) hs jx (by rw [x39]; omega)) (fun y hy => ?_)
      obtain ⟨jy, y39, yt, yf⟩ := hy
      rw [x39] at y39
      refine Ok.bind (sr_must jy.1.2.2.1) (fun z hz => ?_)
      have jz := jy.p hz.1
      have m4 := hz.1.2.2.2.1
      have z39 : hi z 226 39 = hi y 226 39 := hz.1.1 226 39 (by decide)
      have chain (zz : (hi z 226 13).toInt = 0) : (hi y 226 13).toInt = 0 ∧ (hi x 226 13).toInt = 0 ∧ (hi w 226 13).toInt = 0 ∧ (hi u 226 13).toInt = 0 ∧ (hi r 226 13).toInt = 0 ∧ (hi q 226 13).toInt = 0 := by
        have e1 := (hz.2 zz).1
        have e2 := (yf e1).1
        have e3 := (hx.2 e2).1
        have e4 := (wf e3).1
        have e5 := (hu.2 e4).1
        exact ⟨e1, e2, e3, e4, e5, rf e5⟩
      have T9 : T0 ≤ (hi z 226 11).toInt := by clear wf rx chain; omega
      have B9 : (hi y 226 39).toInt ≤ 130 * s + 100 := by clear wf rx chain; omega
      refine ih z (l3 + 1) jz (by rw [z39]; exact B9) (fun zz => ?_) T9 (fun _ => z0 fz) L0 L4 L5
      obtain ⟨e1, e2, e3, e4, e5, e6⟩ := chain zz
      have p1 := (hz.2 zz).2
      have p2 := yf e1
      have p3 := (hx.2 e2).2
      have p5 := (hu.2 e4).2
      have p6 := (hq.2 e6).2
      refine ⟨by rw [z39]; clear wf rx chain; omega, ?_⟩
      obtain ⟨c1, hc1, xw⟩ := (wf e3).2
      obtain ⟨cA, hcA, xr⟩ := rx e6
      clear wf rx chain
      have cr := c3'.x (by rw [g3s]; exact hcA) xr
      have cu4 := cw4 _ (cr.p hu.1)
      have cww := cu4.x (by rw [g4s]; exact hc1) xw
      refine (p2.2.2 _ (cww.p hx.1) (fun k' hk' h3 => ?_)).p hz.1
      rw [x39] at hk'
      have ekk : k' = k := by omega
      subst ekk
      have tr := jr.1.2.2.1.1
      have bb := jq.1.2.2.2.2.1
      -- cells of the branch's row
      have xa (a i : Nat) (h1 : a ≠ 226) : hi x a i = hi w a i := hx.1.1 a i (pK226 h1)
      have wa (a i : Nat) (h1 : a ≠ 226) (h2 : a ≠ 259) (h3 : ¬ ((a = 257 ∨ a = 258) ∧ c1 ≤ i ∧ i < 420 * (c1 / 420) + 420)) : hi w a i = hi g4 a i := xw.1.1 a i (eKn h1 h2 h3)
      have ua (a i : Nat) (h1 : a ≠ 226) : hi u a i = hi r a i := hu.1.1 a i (pK226 h1)
      have ra (a i : Nat) (h1 : a ≠ 226) (h2 : a ≠ 259) (h3 : ¬ ((a = 257 ∨ a = 258) ∧ cA ≤ i ∧ i < 420 * (cA / 420) + 420)) : hi r a i = hi g3 a i := xr.1.1 a i (eKn h1 h2 h3)
      have v253 : hi x 253 k' = hi q 226 45 := by
        rw [xa 253 k' (by decide), wa 253 k' (by decide) (by decide) (by omega), hiA eg4 253 k' (by decide), ua 253 k' (by decide), ra 253 k' (by decide) (by decide) (by omega)]
        exact hiE eg3
      have v254 : hi x 254 k' = hi u 226 45 := by
        rw [xa 254 k' (by decide), wa 254 k' (by decide) (by decide) (by omega)]
        exact hiE eg4
      have x45 : hi x 226 45 = hi w 226 45 := hx.1.1 226 45 (by decide)
      have u45 : hi u 226 45 = hi r 226 45 := hu.1.1 226 45 (by decide)
      obtain ⟨-, -, -, c2', d7, d8, d9, d10⟩ := xw
      obtain ⟨-, -, -, cB, b7, b8', b9, b10⟩ := xr
      have o2 := (d10 e3).2.1
      have o1 := (b10 e5).2.1
      rw [v253, v254, x45]
      have h7 : hi x 257 = hi w 257 := funext fun i => xa 257 i (by decide)
      have h8 : hi x 258 = hi w 258 := funext fun i => xa 258 i (by decide)
      rw [h7, h8]
      have nA := ncT (show 0 ≤ (hi q 226 45).toInt by omega)
      have nB := ncT (show 0 ≤ (hi u 226 45).toInt by omega)
      have nC := ncT (show 0 ≤ (hi w 226 45).toInt by omega)
      have bu : c1 = cB := by rw [u45] at hc1; omega
      subst bu
      refine ⟨⟨by omega, by omega, ?_⟩, ⟨by omega, by omega, ?_⟩, by omega⟩
      · rw [show Int32.toNatClampNeg (hi q 226 45) = cA by omega, show Int32.toNatClampNeg (hi u 226 45) = c1 by omega]
        refine oc_cg (fun i h1 h2 => ?_) (fun i h1 h2 => ?_) o1
        · rw [wa 257 i (by decide) (by decide) (by omega), hiA eg4 257 i (by decide), ua 257 i (by decide)]
        · rw [wa 258 i (by decide) (by decide) (by omega), hiA eg4 258 i (by decide), ua 258 i (by decide)]
      · rw [show Int32.toNatClampNeg (hi u 226 45) = c1 by omega, show Int32.toNatClampNeg (hi w 226 45) = c2' by omega]
        exact o2
    rw [g4s 13]
    refine Ok.eq (fun c5 => ?_) (fun c5 => ?_)
    · have fu : (hi g4 226 13).toInt = 0 := by rw [g4s]; omega
      refine Ok.bind (sr_ex (by omega) hs j4 fu) (fun w hw => ?_)
      obtain ⟨jw, c1, hc1, xw⟩ := hw
      rw [g4s] at hc1
      have wt := xw.2.2.1.2.2
      rw [g4s] at wt
      exact tl w jw ((xw.1.1 226 39 rfl).trans ((g4s 39).trans u39)) wt (fun _ => ⟨by rw [g4s] at fu; exact fu, c1, hc1, xw⟩)
    · exact tl g4 j4 ((g4s 39).trans u39) (by rw [g4s]; exact Int.le_refl _) (fun z => by rw [g4s] at z; omega)
theorem sr_law {n : Nat} {h : Hp} (hn : 4000 ≤ n) (hs : s ≤ 1) (j : jL s hC h) {x1 : Int32} (k0 : 0 ≤ x1.toInt) (k1 : x1.toInt < 4) (bb : (hi h 226 39).toInt ≤ 130 * s + 100) (ac : (hi h 226 13).toInt = 0 → 4 * ((hi h 226 39).toInt - 130 * s) + 1 ≤ (hi h 226 11).toInt) : Ok (F_X12_tellLaw n h x1) (fun q => jR s hC q ∧ (hi h 226 11).toInt ≤ (hi q 226 11).toInt ∧ ((hi q 226 13).toInt = 0 → (hi h 226 13).toInt = 0)) := by
  have f0 := lit_0
  have b8 := j.1.2.2.2.2.2
  unfold F_X12_tellLaw
  refine Ok.bind (sr_must j.1.2.2.1) (fun q hq => ?_)
  have m := hq.1.2.2.2.1
  have q39 : hi q 226 39 = hi h 226 39 := hq.1.1 226 39 (by decide)
  refine sr_lawL hs k0 k1 n q 0 (j.p hq.1) (by rw [q39]; exact bb) (fun z => ?_) m (fun z => (hq.2 z).1) (by omega) (by omega) (by omega)
  have y := hq.2 z
  have := ac y.1
  refine ⟨by rw [q39]; omega, ⟨by rw [q39]; omega, Int.le_refl _, fun b h1 h2 => by omega⟩⟩
end LW
