/-! READING: what is told. s: the side that is written (the other one is live) -/
def frB (L : Int) (a k : Nat) : Prop := a < 226 ∨ (227 ≤ a ∧ a ≤ 231) ∨ (a = 226 ∧ (k = 18 ∨ k = 59 ∨ k = 65)) ∨ 260 ≤ a ∨ ((a = 235 ∨ a = 236 ∨ a = 242) ∧ (k : Int) = L) ∨ ((a = 250 ∨ a = 251) ∧ 4 * L ≤ k ∧ (k : Int) < 4 * L + 4) ∨ ((252 ≤ a ∧ a ≤ 256) ∧ 130 * L ≤ k ∧ (k : Int) < 130 * L + 130) ∨ ((a = 257 ∨ a = 258) ∧ 420 * L ≤ k ∧ (k : Int) < 420 * L + 420)
/-- how many tunes, goers, names, ropes -/
def cnB (s : Nat) (h : Hp) : Prop := (0 ≤ (hi h 237 s).toInt ∧ (hi h 237 s).toInt ≤ 8) ∧ (0 ≤ (hi h 242 s).toInt ∧ (hi h 242 s).toInt ≤ 5) ∧ (0 ≤ (hi h 226 20).toInt ∧ (hi h 226 20).toInt ≤ 5) ∧ (0 ≤ (hi h 245 s).toInt ∧ (hi h 245 s).toInt ≤ 8)
def jB (s : Nat) (hC h : Hp) : Prop := ((∀ a k, frB (1 - s) a k → hi h a k = hi hC a k) ∧ (∀ a k, (a < 226 ∨ a = 232 ∨ a = 233) → hl h a k = hl hC a k)) ∧ ((hi h 226 2).toInt = 0 ∧ (hi h 226 19).toInt = s) ∧ tI h ∧ cnB s h ∧ (420 * (s : Int) ≤ (hi h 226 45).toInt ∧ (hi h 226 45).toInt ≤ 420 * s + (hi h 226 11).toInt + 3) ∧ (130 * (s : Int) ≤ (hi h 226 39).toInt ∧ (hi h 226 39).toInt ≤ 130 * s + 104)
def in4 (x : Int32) : Prop := 0 ≤ x.toInt ∧ x.toInt ≤ 4
/-- numbers as they must be -/
def vlO (s : Nat) (h : Hp) : Prop := (2 ≤ (hi h 235 s).toInt ∧ (hi h 235 s).toInt ≤ 5) ∧ (2 ≤ (hi h 236 s).toInt ∧ (hi h 236 s).toInt ≤ 5) ∧ (∀ k : Nat, (k : Int) < (hi h 237 s).toInt → in4 (hi h 238 (8 * s + k)) ∧ in4 (hi h 239 (8 * s + k)) ∧ (2 ≤ (hi h 240 (8 * s + k)).toInt ∧ (hi h 240 (8 * s + k)).toInt ≤ 6) ∧ 0 ≤ (hi h 241 (8 * s + k)).toInt ∧ (hi h 241 (8 * s + k)).toInt < (hi h 240 (8 * s + k)).toInt) ∧ (∀ k : Nat, (k : Int) < (hi h 242 s).toInt → in4 (hi h 243 (5 * s + k)) ∧ in4 (hi h 244 (5 * s + k))) ∧ (∀ k : Nat, (k : Int) < (hi h 245 s).toInt → in4 (hi h 246 (8 * s + k)) ∧ in4 (hi h 247 (8 * s + k)))
def lwR (s : Nat) (h : Hp) : Prop := ∀ i : Nat, 4 * s ≤ i → i < 4 * s + 4 → (hi h 250 i).toInt = (hi h 251 i).toInt ∨ (130 * (s : Int) ≤ (hi h 250 i).toInt ∧ (hi h 251 i).toInt ≤ (hi h 226 39).toInt ∧ ∀ b : Nat, (hi h 250 i).toInt ≤ b → (b : Int) < (hi h 251 i).toInt → obO s h b ∧ (hi h 256 b).toInt ≤ (hi h 226 45).toInt)
def jG (s : Nat) (h : Hp) : Prop := (hi h 226 12).toInt = 0 ∧ (hi h 226 20).toInt = (hi h 242 s).toInt ∧ (hi h 226 45).toInt ≤ 420 * s + (hi h 226 11).toInt ∧ 4 * ((hi h 226 39).toInt - 130 * s) ≤ (hi h 226 11).toInt ∧ ((hi h 226 15).toInt = 0 → vlO s h) ∧ lwR s h
def jR (s : Nat) (hC h : Hp) : Prop := jB s hC h ∧ ((hi h 226 13).toInt = 0 → jG s h)
theorem frB_p {L : Int} {a k : Nat} (q : frB L a k) : pK a k = false := by
  by_cases c : a = 226
  · subst c
    unfold frB at q
    have : k = 18 ∨ k = 59 ∨ k = 65 := by omega
    rcases this with rfl | rfl | rfl <;> decide
  · exact pK226 c
section JR
variable {s : Nat} {hC h h' : Hp}
theorem vlO.cg (f : ∀ a k, 235 ≤ a → a ≤ 247 → hi h' a k = hi h a k) (v : vlO s h) : vlO s h' := by
  unfold vlO at v ⊢
  simp only [f 235 _ (by decide) (by decide), f 236 _ (by decide) (by decide), f 237 _ (by decide) (by decide), f 238 _ (by decide) (by decide), f 239 _ (by decide) (by decide), f 240 _ (by decide) (by decide), f 241 _ (by decide) (by decide), f 242 _ (by decide) (by decide), f 243 _ (by decide) (by decide), f 244 _ (by decide) (by decide), f 245 _ (by decide) (by decide), f 246 _ (by decide) (by decide), f 247 _ (by decide) (by decide)]
  exact v
theorem obO.cg {L : Int} {b : Nat} (f : ∀ a k, 252 ≤ a → a ≤ 258 → hi h' a k = hi h a k) (o : obO L h b) : obO L h' b := by
  have r (a : Nat) (h1 : 252 ≤ a) (h2 : a ≤ 258) : hi h' a = hi h a := funext fun k => f a k h1 h2
  unfold obO
  rw [r 252 (by decide) (by decide), r 253 (by decide) (by decide), r 254 (by decide) (by decide), r 255 (by decide) (by decide), r 256 (by decide) (by decide), r 257 (by decide) (by decide), r 258 (by decide) (by decide)]
  exact o
theorem lwR.cg (f : ∀ a k, 250 ≤ a → a ≤ 258 → hi h' a k = hi h a k) (e1 : (hi h 226 39).toInt ≤ (hi h' 226 39).toInt) (e2 : (hi h 226 45).toInt ≤ (hi h' 226 45).toInt) (w : lwR s h) : lwR s h' := by
  intro i h1 h2
  rw [f 250 i (by decide) (by decide), f 251 i (by decide) (by decide)]
  rcases w i h1 h2 with q | ⟨q1, q2, q3⟩
  · exact Or.inl q
  · refine Or.inr ⟨q1, by omega, fun b b1 b2 => ⟨(q3 b b1 b2).1.cg (fun a k h1 h2 => f a k (by omega) h2), ?_⟩⟩
    rw [f 256 b (by decide) (by decide)]
    have := (q3 b b1 b2).2
    omega
theorem jR.p (j : jR s hC h) (p : pR h h') : jR s hC h' := by
  obtain ⟨⟨⟨b1, b2⟩, ⟨b3, b4⟩, b5, b6, b7, b8⟩, g⟩ := j
  obtain ⟨p1, p2, p3, p4, p5, p6⟩ := p
  have r (a k : Nat) (ha : a ≠ 226) : hi h' a k = hi h a k := p1 a k (pK226 ha)
  have e2 := p1 226 2 (by decide)
  have e19 := p1 226 19 (by decide)
  have e20 := p1 226 20 (by decide)
  have e12 := p1 226 12 (by decide)
  have e45 := p1 226 45 (by decide)
  have e39 := p1 226 39 (by decide)
  refine ⟨⟨⟨fun a k q => (p1 a k (frB_p q)).trans (b1 a k q), fun a k q => (p2 a k).trans (b2 a k q)⟩, ⟨by rw [e2]; exact b3, by rw [e19]; exact b4⟩, p3, ?_, by rw [e45]; omega, by rw [e39]; exact b8⟩, fun z => ?_⟩
  · unfold cnB
    rw [r 237 s (by decide), r 242 s (by decide), r 245 s (by decide), e20]
    exact b6
  · obtain ⟨g1, g2, g3, g4, g5, g6⟩ := g (p5 z)
    refine ⟨by rw [e12]; exact g1, by rw [e20, r 242 s (by decide)]; exact g2, by rw [e45]; omega, by rw [e39]; omega, fun w => (g5 (p6 w)).cg (fun a k h1 h2 => r a k (by omega)), g6.cg (fun a k h1 h2 => r a k (by omega)) (by rw [e39]; omega) (by rw [e45]; omega)⟩
/-- a number comes into a table of the side -/
theorem jR.w (j : jR s hC h) {a k : Nat} {v : Int32} (n1 : 235 ≤ a) (n2 : a ≤ 249) (n3 : a ≠ 242) (nf : ¬ frB (1 - s) a k) (cn : cnB s (wrI h a k v)) (vl : (hi h 226 13).toInt = 0 → (hi h 226 15).toInt = 0 → vlO s h → vlO s (wrI h a k v)) : jR s hC (wrI h a k v) := by
  obtain ⟨⟨⟨b1, b2⟩, ⟨b3, b4⟩, b5, b6, b7, b8⟩, g⟩ := j
  have r (a' k' : Nat) (ha : a' ≠ a) : hi (wrI h a k v) a' k' = hi h a' k' := by rw [hi_wrI, if_neg (fun z => ha z.1)]
  have r2 (k' : Nat) : hi (wrI h a k v) 226 k' = hi h 226 k' := r 226 k' (by omega)
  refine ⟨⟨⟨fun a' k' q => ?_, fun a' k' q => b2 a' k' q⟩, ⟨by rw [r2]; exact b3, by rw [r2]; exact b4⟩, tI_a b5 (by omega), cn, by rw [r2, r2]; exact b7, by rw [r2]; exact b8⟩, fun z => ?_⟩
  · rw [hi_wrI, if_neg (fun z => nf (by rw [← z.1, ← z.2]; exact q))]
    exact b1 a' k' q
  · rw [r2] at z
    obtain ⟨g1, g2, g3, g4, g5, g6⟩ := g z
    refine ⟨by rw [r2]; exact g1, by rw [r2, r 242 s (by omega)]; exact g2, by rw [r2, r2]; exact g3, by rw [r2, r2]; exact g4, fun w => ?_, g6.cg (fun a' k' h1 h2 => r a' k' (by omega)) (by rw [r2]; omega) (by rw [r2]; omega)⟩
    rw [r2] at w
    exact vl z w (g5 w)
theorem cnB.w (c : cnB s h) {a k : Nat} {v : Int32} (n1 : 235 ≤ a) (n3 : a ≠ 242) (n4 : a ≠ 237) (n5 : a ≠ 245) : cnB s (wrI h a k v) := by
  unfold cnB
  rw [hi_wrI, if_neg (fun z => n4 z.1.symm), hi_wrI, if_neg (fun z => n3 z.1.symm), hi_wrI, if_neg (fun z => by omega), hi_wrI, if_neg (fun z => n5 z.1.symm)]
  exact c
/-- a row that isn't counted yet -/
theorem jR.wx (j : jR s hC h) {a k : Nat} {v : Int32} (ha : ((a = 238 ∨ a = 239 ∨ a = 240 ∨ a = 241) ∧ (k : Int) = 8 * s + (hi h 237 s).toInt) ∨ ((a = 243 ∨ a = 244) ∧ (k : Int) = 5 * s + (hi h 242 s).toInt) ∨ ((a = 246 ∨ a = 247) ∧ (k : Int) = 8 * s + (hi h 245 s).toInt)) : jR s hC (wrI h a k v) := by
  refine j.w (by omega) (by omega) (by omega) (by unfold frB; omega) (j.1.2.2.2.1.w (by omega) (by omega) (by omega) (by omega)) (fun _ _ w => ?_)
  have r (a' k' : Nat) (ha : ¬ (a' = a ∧ k' = k)) : hi (wrI h a k v) a' k' = hi h a' k' := by rw [hi_wrI, if_neg ha]
  obtain ⟨w1, w2, w3, w4, w5⟩ := w
  unfold vlO
  rw [r 235 s (by omega), r 236 s (by omega), r 237 s (by omega), r 242 s (by omega), r 245 s (by omega)]
  refine ⟨w1, w2, fun k' hk => ?_, fun k' hk => ?_, fun k' hk => ?_⟩
  · rw [r 238 _ (by omega), r 239 _ (by omega), r 240 _ (by omega), r 241 _ (by omega)]
    exact w3 k' hk
  · rw [r 243 _ (by omega), r 244 _ (by omega)]
    exact w4 k' hk
  · rw [r 246 _ (by omega), r 247 _ (by omega)]
    exact w5 k' hk
end JR
section TL
variable {s : Nat} {hC h : Hp}
theorem jR.side (j : jR s hC h) (hs : s ≤ 1) : ixOK (hi h 226 19) 2 = true ∧ Int32.toNatClampNeg (hi h 226 19) = s := by
  have a := j.1.2.1.2
  have b := ncT (show 0 ≤ (hi h 226 19).toInt by omega)
  exact ⟨ixT (by omega) (by omega), by omega⟩
theorem i8 {x y : Int32} {s : Nat} (hx : x.toInt = s) (hs : s ≤ 1) (y0 : 0 ≤ y.toInt) (y1 : y.toInt ≤ 8) : (8 * x + y).toInt = 8 * s + y.toInt ∧ ((Int32.toNatClampNeg (8 * x + y) : Nat) : Int) = 8 * s + y.toInt := by
  have f1 := mlT 8 x 8 lit_8 (by omega) (by omega)
  have f2 := lit_8
  have f3 := adT (8 * x) y (by omega) (by omega)
  have n0 := ncT (show 0 ≤ (8 * x + y).toInt by omega)
  exact ⟨by omega, by omega⟩
theorem sr_tune {n : Nat} (hs : s ≤ 1) (j : jR s hC h) (t8 : (hi h 237 s).toInt < 8) : Ok (F_X12_tellTune n h) (fun q => jR s hC q ∧ (hi h 226 11).toInt ≤ (hi q 226 11).toInt ∧ ((hi q 226 13).toInt = 0 → (hi h 226 13).toInt = 0)) := by
  obtain ⟨i1, i2⟩ := j.side hs
  have j19 := j.1.2.1.2
  have c8 := j.1.2.2.2.1.1
  unfold F_X12_tellTune
  refine Ok.pos i1 ?_
  rw [i2]
  have ix := i8 j19 hs c8.1 c8.2
  have im : ixOK (8 * hi h 226 19 + hi h 237 s) 16 = true := ixT (by omega) (by omega)
  generalize ek : Int32.toNatClampNeg (8 * hi h 226 19 + hi h 237 s) = k
  rw [ek] at ix
  refine Ok.bind (sr_bounded j.1.2.2.1) (fun q2 hq2 => ?_)
  refine Ok.pos im ?_
  have j2 := j.p hq2.1
  have r2 : hi q2.2 237 s = hi h 237 s := hq2.1.1 237 s (pK226 (by decide))
  have j3 : jR s hC (wrI q2.2 238 k q2.1) := j2.wx (Or.inl ⟨by decide, by rw [r2]; exact ix.2⟩)
  generalize eg3 : wrI q2.2 238 k q2.1 = g3 at j3
  refine Ok.bind (sr_bounded j3.1.2.2.1) (fun q5 hq5 => ?_)
  refine Ok.pos im ?_
  have j5 := j3.p hq5.1
  have r5 : hi q5.2 237 s = hi h 237 s := (hq5.1.1 237 s (pK226 (by decide))).trans ((hiA eg3 237 s (by decide)).trans r2)
  have j6 : jR s hC (wrI q5.2 239 k q5.1) := j5.wx (Or.inl ⟨by decide, by rw [r5]; exact ix.2⟩)
  generalize eg6 : wrI q5.2 239 k q5.1 = g6 at j6
  refine Ok.bind (sr_bounded j6.1.2.2.1) (fun q8 hq8 => ?_)
  refine Ok.pos im ?_
  have j8 := j6.p hq8.1
  have r8 : hi q8.2 237 s = hi h 237 s := (hq8.1.1 237 s (pK226 (by decide))).trans ((hiA eg6 237 s (by decide)).trans r5)
  have j9 : jR s hC (wrI q8.2 240 k q8.1) := j8.wx (Or.inl ⟨by decide, by rw [r8]; exact ix.2⟩)
  generalize eg9 : wrI q8.2 240 k q8.1 = g9 at j9
  refine Ok.pos im ?_
  have v9 : hi g9 240 k = q8.1 := hiE eg9
  rw [v9]
  have r9 : hi g9 237 s = hi h 237 s := (hiA eg9 237 s (by decide)).trans r8
  have t3 (z : Nat) : hi g3 226 z = hi q2.2 226 z := hiA eg3 226 z (by decide)
  have t6 (z : Nat) : hi g6 226 z = hi q5.2 226 z := hiA eg6 226 z (by decide)
  have t9 (z : Nat) : hi g9 226 z = hi q8.2 226 z := hiA eg9 226 z (by decide)
  have fin (y : Int32) (hy : q8.1.toInt ≤ 6 → 2 ≤ q8.1.toInt → y.toInt < q8.1.toInt) : Ok ((F_X12_bounded n g9 0 y).bind (fun q13 => (if ixOK (8 * hi h 226 19 + hi h 237 s) 16 = true then ((F_X12_must n (wrI q13.2 241 k q13.1) 4).bind (fun q16 => (if ((hi q16 226 13) : Int32) = 0 then (if ixOK (hi q16 226 19) 2 = true then (if ixOK (hi q16 226 19) 2 = true then some (wrI q16 237 (Int32.toNatClampNeg (hi q16 226 19)) ((hi q16 237 (Int32.toNatClampNeg (hi q16 226 19))) + 1)) else none) else none) else some q16))) else none))) (fun q => jR s hC q ∧ (hi h 226 11).toInt ≤ (hi q 226 11).toInt ∧ ((hi q 226 13).toInt = 0 → (hi h 226 13).toInt = 0)) := by
    refine Ok.bind (sr_bounded j9.1.2.2.1) (fun q13 hq13 => ?_)
    refine Ok.pos im ?_
    have j13 := j9.p hq13.1
    have r13 : hi q13.2 237 s = hi h 237 s := (hq13.1.1 237 s (pK226 (by decide))).trans r9
    have j14 : jR s hC (wrI q13.2 241 k q13.1) := j13.wx (Or.inl ⟨by decide, by rw [r13]; exact ix.2⟩)
    generalize eg14 : wrI q13.2 241 k q13.1 = g14 at j14
    have t14 (z : Nat) : hi g14 226 z = hi q13.2 226 z := hiA eg14 226 z (by decide)
    refine Ok.bind (sr_must j14.1.2.2.1) (fun q hq => ?_)
    have jq := j14.p hq.1
    have m1 := hq2.1.2.2.2.1
    have m2 := hq5.1.2.2.2.1
    have m3 := hq8.1.2.2.2.1
    have m4 := hq13.1.2.2.2.1
    have m5 := hq.1.2.2.2.1
    have b5 := hq.2
    have b4 := hq13.2
    have b3 := hq8.2
    have b2 := hq5.2
    have b1 := hq2.2
    have u5 := hq.1.2.2.2.2.2
    have u4 := hq13.1.2.2.2.2.2
    have u3 := hq8.1.2.2.2.2.2
    have u2 := hq5.1.2.2.2.2.2
    have u1 := hq2.1.2.2.2.2.2
    rw [t3] at m2 b2 u2
    rw [t6] at m3 b3 u3
    rw [t9] at m4 b4 u4
    rw [t14] at m5 b5 u5
    rw [t3] at b2
    rw [t6] at b3
    rw [t9] at b4
    rw [t14] at b5
    have f0 := lit_0
    have f1 := lit_1
    refine Ok.eq (fun c1 => ?_) (fun c1 => Ok.ret ⟨jq, by omega, fun z => by omega⟩)
    obtain ⟨k1, k2⟩ := jq.side hs
    refine Ok.pos k1 (Ok.pos k1 ?_)
    rw [k2]
    have rq (a z : Nat) (h1 : a ≠ 226) : hi q a z = hi g14 a z := hq.1.1 a z (pK226 h1)
    have rq13 (a z : Nat) (h1 : a ≠ 226) : hi q13.2 a z = hi g9 a z := hq13.1.1 a z (pK226 h1)
    have rq8 (a z : Nat) (h1 : a ≠ 226) : hi q8.2 a z = hi g6 a z := hq8.1.1 a z (pK226 h1)
    have rq5 (a z : Nat) (h1 : a ≠ 226) : hi q5.2 a z = hi g3 a z := hq5.1.1 a z (pK226 h1)
    have w237 : hi q 237 s = hi h 237 s := (rq 237 s (by decide)).trans ((hiA eg14 237 s (by decide)).trans r13)
    have w241 : hi q 241 k = q13.1 := by rw [rq 241 k (by decide)]; exact hiE eg14
    have w240 : hi q 240 k = q8.1 := by rw [rq 240 k (by decide), hiA eg14 240 k (by decide), rq13 240 k (by decide)]; exact v9
    have w239 : hi q 239 k = q5.1 := by rw [rq 239 k (by decide), hiA eg14 239 k (by decide), rq13 239 k (by decide), hiA eg9 239 k (by decide), rq8 239 k (by decide)]; exact hiE eg6
    have w238 : hi q 238 k = q2.1 := by rw [rq 238 k (by decide), hiA eg14 238 k (by decide), rq13 238 k (by decide), hiA eg9 238 k (by decide), rq8 238 k (by decide), hiA eg6 238 k (by decide), rq5 238 k (by decide)]; exact hiE eg3
    rw [w237]
    have a1 := adT (hi h 237 s) 1 (by omega) (by omega)
    have cq := jq.1.2.2.2.1
    have rn (a z : Nat) (ha : a ≠ 237) : hi (wrI q 237 s (hi h 237 s + 1)) a z = hi q a z := by rw [hi_wrI, if_neg (fun w => ha w.1)]
    have rc : hi (wrI q 237 s (hi h 237 s + 1)) 237 s = hi h 237 s + 1 := by rw [hi_wrI, if_pos ⟨rfl, rfl⟩]
    refine Ok.ret ⟨jq.w (by decide) (by decide) (by decide) (by unfold frB; omega) ?_ (fun z1 z2 vl => ?_), by rw [rn 226 11 (by decide)]; omega, fun z => by rw [rn 226 13 (by decide)] at z; omega⟩
    · unfold cnB
      rw [rc, rn 242 s (by decide), rn 226 20 (by decide), rn 245 s (by decide)]
      exact ⟨by omega, cq.2⟩
    · obtain ⟨v1, v2, v3, v4, v5⟩ := vl
      unfold vlO
      rw [rc, rn 235 s (by decide), rn 236 s (by decide), rn 242 s (by decide), rn 245 s (by decide)]
      refine ⟨v1, v2, fun i il => ?_, fun i il => ?_, fun i il => ?_⟩
      · rw [rn 238 _ (by decide), rn 239 _ (by decide), rn 240 _ (by decide), rn 241 _ (by decide)]
        by_cases zz : (i : Int) < (hi h 237 s).toInt
        · exact v3 i (by rw [w237]; exact zz)
        · have ei : 8 * s + i = k := by omega
          rw [ei, w238, w239, w240, w241]
          have y5 := b5 (by omega)
          have y4 := b4 y5.1
          have y3 := b3 y4.1
          have y2 := b2 y3.1
          have y1 := b1 y2.1
          have x4 := y4.2.2 (u5 z2)
          have x3 := y3.2.2 (u4 (u5 z2))
          have x2 := y2.2.2 (u3 (u4 (u5 z2)))
          have x1 := y1.2.2 (u2 (u3 (u4 (u5 z2))))
          have f4 := lit_4
          have f2 := lit_2
          have f6 := lit_6
          have := hy (by omega) (by omega)
          unfold in4
          omega
      · rw [rn 243 _ (by decide), rn 244 _ (by decide)]
        exact v4 i il
      · rw [rn 246 _ (by decide), rn 247 _ (by decide)]
        exact v5 i il
  have f5 := lit_5
  refine Ok.ite (fun c1 => fin 5 (fun q1 q2 => ?_)) (fun c1 => ?_)
  · have := Int32.le_iff_toInt_le.mp c1
    generalize ey : (q8.1 - 1 : Int32) = y at this
    have fy := sbG ey rfl lit_1 (by omega) (by omega)
    omega
  · refine Ok.pos im ?_
    refine fin (q8.1 - 1) (fun q1 q2 => ?_)
    generalize ey : (q8.1 - 1 : Int32) = y
    have fy := sbG ey rfl lit_1 (by omega) (by omega)
    omega
end TL
