section
/-! READING: what is told. s: the side that is written (the other one is live) -/
def frB (L : Int) (a k : Nat) : Prop := a < 226 ∨ (227 ≤ a ∧ a ≤ 231) ∨ (a = 226 ∧ (k = 18 ∨ k = 59 ∨ k = 65)) ∨ 260 ≤ a ∨ ((a = 235 ∨ a = 236 ∨ a = 242) ∧ (k : Int) = L) ∨ ((a = 250 ∨ a = 251) ∧ 4 * L ≤ k ∧ (k : Int) < 4 * L + 4) ∨ ((252 ≤ a ∧ a ≤ 256) ∧ 130 * L ≤ k ∧ (k : Int) < 130 * L + 130) ∨ ((a = 257 ∨ a = 258) ∧ 420 * L ≤ k ∧ (k : Int) < 420 * L + 420)
/-- how many tunes, goers, names, ropes -/
def cnB (s : Nat) (h : Hp) : Prop := (0 ≤ (hi h 237 s).toInt ∧ (hi h 237 s).toInt ≤ 8) ∧ (0 ≤ (hi h 242 s).toInt ∧ (hi h 242 s).toInt ≤ 5) ∧ (0 ≤ (hi h 226 20).toInt ∧ (hi h 226 20).toInt ≤ 5) ∧ (0 ≤ (hi h 245 s).toInt ∧ (hi h 245 s).toInt ≤ 8)
def jB (s : Nat) (hC h : Hp) : Prop := ((∀ a k, frB (1 - s) a k → hi h a k = hi hC a k) ∧ (∀ a k, (a < 226 ∨ a = 232 ∨ a = 233) → hl h a k = hl hC a k)) ∧ ((hi h 226 2).toInt = 0 ∧ (hi h 226 19).toInt = s) ∧ tI h ∧ cnB s h ∧ (420 * (s : Int) ≤ (hi h 226 45).toInt ∧ (hi h 226 45).toInt ≤ 420 * s + (hi h 226 11).toInt + 3) ∧ (130 * (s : Int) ≤ (hi h 226 39).toInt ∧ (hi h 226 39).toInt ≤ 130 * s + 104)
def in4 (x : Int32) : Prop := 0 ≤ x.toInt ∧ x.toInt ≤ 4
/-- numbers as they must be -/
def vlO (s : Nat) (h : Hp) : Prop := (2 ≤ (hi h 235 s).toInt ∧ (hi h 235 s).toInt ≤ 5) ∧ (2 ≤ (hi h 236 s).toInt ∧ (hi h 236 s).toInt ≤ 5) ∧ (∀ k : Nat, (k : Int) < (hi h 237 s).toInt → in4 (hi h 238 (8 * s + k)) ∧ in4 (hi h 239 (8 * s + k)) ∧ (2 ≤ (hi h 240 (8 * s + k)).toInt ∧ (hi h 240 (8 * s + k)).toInt ≤ 6) ∧ 0 ≤ (hi h 241 (8 * s + k)).toInt ∧ (hi h 241 (8 * s + k)).toInt < (hi h 240 (8 * s + k)).toInt) ∧ (∀ k : Nat, (k : Int) < (hi h 242 s).toInt → in4 (hi h 243 (5 * s + k)) ∧ in4 (hi h 244 (5 * s + k))) ∧ (∀ k : Nat, (k : Int) < (hi h 245 s).toInt → in4 (hi h 246 (8 * s + k)) ∧ in4 (hi h 247 (8 * s + k)))
def lwR (s : Nat) (h : Hp) : Prop := ∀ i : Nat, 4 * s ≤ i → i < 4 * s + 4 → (hi h 250 i).toInt = (hi h 251 i).toInt ∨ (130 * (s : Int) ≤ (hi h 250 i).toInt ∧ (hi h 251 i).toInt ≤ (hi h 226 39).toInt ∧ ∀ b : Nat, (hi h 250 i).toInt ≤ b → (b : Int) < (hi h 251 i).toInt → obO s h b ∧ (hi h 256 b).toInt ≤ (hi h 226 45).toInt)
def jG (s : Nat) (h : Hp) : Prop := (hi h 226 12).toInt = 0 ∧ (hi h 226 20).toInt = (hi h 242 s).toInt ∧ (hi h 226 45).toInt ≤ 420 * s + (hi h 226 11).toInt ∧ 4 * ((hi h 226 39).toInt - 130 * s) ≤ (hi h 226 11).toInt ∧ ((hi h 226 15).toInt = 0 → vlO s h) ∧ lwR s h
def jR (s : Nat) (hC h : Hp) : Prop := jB s hC h ∧ ((hi h 226 13).toInt = 0 → jG s h)
theorem frB_p {L : Int} {a k : Nat} (q : frB L a k) : pK a k = false := by
  by_cases c : a = 226
  · subst c
    unfold frB at q
    have : k = 18 ∨ k = 59 ∨ k = 65 := by omega
    rcases this with rfl | rfl | rfl <;> decide
  · exact pK226 c
section JR
variable {s : Nat} {hC h h' : Hp}
theorem vlO.cg (f : ∀ a k, 235 ≤ a → a ≤ 247 → hi h' a k = hi h a k) (v : vlO s h) : vlO s h' := by
  unfold vlO at v ⊢
  simp only [f 235 _ (by decide) (by decide), f 236 _ (by decide) (by decide), f 237 _ (by decide) (by decide), f 238 _ (by decide) (by decide), f 239 _ (by decide) (by decide), f 240 _ (by decide) (by decide), f 241 _ (by decide) (by decide), f 242 _ (by decide) (by decide), f 243 _ (by decide) (by decide), f 244 _ (by decide) (by decide), f 245 _ (by decide) (by decide), f 246 _ (by decide) (by decide), f 247 _ (by decide) (by decide)]
  exact v
theorem obO.cg {L : Int} {b : Nat} (f : ∀ a k, 252 ≤ a → a ≤ 258 → hi h' a k = hi h a k) (o : obO L h b) : obO L h' b := by
  have r (a : Nat) (h1 : 252 ≤ a) (h2 : a ≤ 258) : hi h' a = hi h a := funext fun k => f a k h1 h2
  unfold obO
  rw [r 252 (by decide) (by decide), r 253 (by decide) (by decide), r 254 (by decide) (by decide), r 255 (by decide) (by decide), r 256 (by decide) (by decide), r 257 (by decide) (by decide), r 258 (by decide) (by decide)]
  exact o
theorem lwR.cg (f : ∀ a k, 250 ≤ a → a ≤ 258 → hi h' a k = hi h a k) (e1 : (hi h 226 39).toInt ≤ (hi h' 226 39).toInt) (e2 : (hi h 226 45).toInt ≤ (hi h' 226 45).toInt) (w : lwR s h) : lwR s h' := by
  intro i h1 h2
  rw [f 250 i (by decide) (by decide), f 251 i (by decide) (by decide)]
  rcases w i h1 h2 with q | ⟨q1, q2, q3⟩
  · exact Or.inl q
  · refine Or.inr ⟨q1, by omega, fun b b1 b2 => ⟨(q3 b b1 b2).1.cg (fun a k h1 h2 => f a k (by omega) h2), ?_⟩⟩
    rw [f 256 b (by decide) (by decide)]
    have := (q3 b b1 b2).2
    omega
theorem jR.p (j : jR s hC h) (p : pR h h') : jR s hC h' := by
  obtain ⟨⟨⟨b1, b2⟩, ⟨b3, b4⟩, b5, b6, b7, b8⟩, g⟩ := j
  obtain ⟨p1, p2, p3, p4, p5, p6⟩ := p
  have r (a k : Nat) (ha : a ≠ 226) : hi h' a k = hi h a k := p1 a k (pK226 ha)
  have e2 := p1 226 2 (by decide)
  have e19 := p1 226 19 (by decide)
  have e20 := p1 226 20 (by decide)
  have e12 := p1 226 12 (by decide)
  have e45 := p1 226 45 (by decide)
  have e39 := p1 226 39 (by decide)
  refine ⟨⟨⟨fun a k q => (p1 a k (frB_p q)).trans (b1 a k q), fun a k q => (p2 a k).trans (b2 a k q)⟩, ⟨by rw [e2]; exact b3, by rw [e19]; exact b4⟩, p3, ?_, by rw [e45]; omega, by rw [e39]; exact b8⟩, fun z => ?_⟩
  · unfold cnB
    rw [r 237 s (by decide), r 242 s (by decide), r 245 s (by decide), e20]
    exact b6
  · obtain ⟨g1, g2, g3, g4, g5, g6⟩ := g (p5 z)
    refine ⟨by rw [e12]; exact g1, by rw [e20, r 242 s (by decide)]; exact g2, by rw [e45]; omega, by rw [e39]; omega, fun w => (g5 (p6 w)).cg (fun a k h1 h2 => r a k (by omega)), g6.cg (fun a k h1 h2 => r a k (by omega)) (by rw [e39]; omega) (by rw [e45]; omega)⟩
/-- a number comes into a table of the side -/
theorem jR.w (j : jR s hC h) {a k : Nat} {v : Int32} (n1 : 235 ≤ a) (n2 : a ≤ 249) (n3 : a ≠ 242) (nf : ¬ frB (1 - s) a k) (cn : cnB s (wrI h a k v)) (vl : (hi h 226 13).toInt = 0 → (hi h 226 15).toInt = 0 → vlO s h → vlO s (wrI h a k v)) : jR s hC (wrI h a k v) := by
  obtain ⟨⟨⟨b1, b2⟩, ⟨b3, b4⟩, b5, b6, b7, b8⟩, g⟩ := j
  have r (a' k' : Nat) (ha : a' ≠ a) : hi (wrI h a k v) a' k' = hi h a' k' := by rw [hi_wrI, if_neg (fun z => ha z.1)]
  have r2 (k' : Nat) : hi (wrI h a k v) 226 k' = hi h 226 k' := r 226 k' (by omega)
  refine ⟨⟨⟨fun a' k' q => ?_, fun a' k' q => b2 a' k' q⟩, ⟨by rw [r2]; exact b3, by rw [r2]; exact b4⟩, tI_a b5 (by omega), cn, by rw [r2, r2]; exact b7, by rw [r2]; exact b8⟩, fun z => ?_⟩
  · rw [hi_wrI, if_neg (fun z => nf (by rw [← z.1, ← z.2]; exact q))]
    exact b1 a' k' q
  · rw [r2] at z
    obtain ⟨g1, g2, g3, g4, g5, g6⟩ := g z
    refine ⟨by rw [r2]; exact g1, by rw [r2, r 242 s (by omega)]; exact g2, by rw [r2, r2]; exact g3, by rw [r2, r2]; exact g4, fun w => ?_, g6.cg (fun a' k' h1 h2 => r a' k' (by omega)) (by rw [r2]; omega) (by rw [r2]; omega)⟩
    rw [r2] at w
    exact vl z w (g5 w)
theorem cnB.w (c : cnB s h) {a k : Nat} {v : Int32} (n1 : 235 ≤ a) (n3 : a ≠ 242) (n4 : a ≠ 237) (n5 : a ≠ 245) : cnB s (wrI h a k v) := by
  unfold cnB
  rw [hi_wrI, if_neg (fun z => n4 z.1.symm), hi_wrI, if_neg (fun z => n3 z.1.symm), hi_wrI, if_neg (fun z => by omega), hi_wrI, if_neg (fun z => n5 z.1.symm)]
  exact c
/-- a row that isn't counted yet -/
theorem jR.wx (j : jR s hC h) {a k : Nat} {v : Int32} (ha : ((a = 238 ∨ a = 239 ∨ a = 240 ∨ a = 241) ∧ (k : Int) = 8 * s + (hi h 237 s).toInt) ∨ ((a = 243 ∨ a = 244) ∧ (k : Int) = 5 * s + (hi h 242 s).toInt) ∨ ((a = 246 ∨ a = 247) ∧ (k : Int) = 8 * s + (hi h 245 s).toInt)) : jR s hC (wrI h a k v) := by
  refine j.w (by omega) (by omega) (by omega) (by unfold frB; omega) (j.1.2.2.2.1.w (by omega) (by omega) (by omega) (by omega)) (fun _ _ w => ?_)
  have r (a' k' : Nat) (ha : ¬ (a' = a ∧ k' = k)) : hi (wrI h a k v) a' k' = hi h a' k' := by rw [hi_wrI, if_neg ha]
  obtain ⟨w1, w2, w3, w4, w5⟩ := w
  unfold vlO
  rw [r 235 s (by omega), r 236 s (by omega), r 237 s (by omega), r 242 s (by omega), r 245 s (by omega)]
  refine ⟨w1, w2, fun k' hk => ?_, fun k' hk => ?_, fun k' hk => ?_⟩
  · rw [r 238 _ (by omega), r 239 _ (by omega), r 240 _ (by omega), r 241 _ (by omega)]
    exact w3 k' hk
  · rw [r 243 _ (by omega), r 244 _ (by omega)]
    exact w4 k' hk
  · rw [r 246 _ (by omega), r 247 _ (by omega)]
    exact w5 k' hk
end JR
section TL
variable {s : Nat} {hC h : Hp}
theorem jR.side (j : jR s hC h) (hs : s ≤ 1) : ixOK (hi h 226 19) 2 = true ∧ Int32.toNatClampNeg (hi h 226 19) = s := by
  have a := j.1.2.1.2
  have b := ncT (show 0 ≤ (hi h 226 19).toInt by omega)
  exact ⟨ixT (by omega) (by omega), by omega⟩
theorem i8 {x y : Int32} {s : Nat} (hx : x.toInt = s) (hs : s ≤ 1) (y0 : 0 ≤ y.toInt) (y1 : y.toInt ≤ 8) : (8 * x + y).toInt = 8 * s + y.toInt ∧ ((Int32.toNatClampNeg (8 * x + y) : Nat) : Int) = 8 * s + y.toInt := by
  have f1 := mlT 8 x 8 lit_8 (by omega) (by omega)
  have f2 := lit_8
  have f3 := adT (8 * x) y (by omega) (by omega)
  have n0 := ncT (show 0 ≤ (8 * x + y).toInt by omega)
  exact ⟨by omega, by omega⟩
theorem sr_tune {n : Nat} (hs : s ≤ 1) (j : jR s hC h) (t8 : (hi h 237 s).toInt < 8) : Ok (F_X12_tellTune n h) (fun q => jR s hC q ∧ (hi h 226 11).toInt ≤ (hi q 226 11).toInt ∧ ((hi q 226 13).toInt = 0 → (hi h 226 13).toInt = 0)) := by
  obtain ⟨i1, i2⟩ := j.side hs
  have j19 := j.1.2.1.2
  have c8 := j.1.2.2.2.1.1
  unfold F_X12_tellTune
  refine Ok.pos i1 ?_
  rw [i2]
  have ix := i8 j19 hs c8.1 c8.2
  have im : ixOK (8 * hi h 226 19 + hi h 237 s) 16 = true := ixT (by omega) (by omega)
  generalize ek : Int32.toNatClampNeg (8 * hi h 226 19 + hi h 237 s) = k
  rw [ek] at ix
  refine Ok.bind (sr_bounded j.1.2.2.1) (fun q2 hq2 => ?_)
  refine Ok.pos im ?_
  have j2 := j.p hq2.1
  have r2 : hi q2.2 237 s = hi h 237 s := hq2.1.1 237 s (pK226 (by decide))
  have j3 : jR s hC (wrI q2.2 238 k q2.1) := j2.wx (Or.inl ⟨by decide, by rw [r2]; exact ix.2⟩)
  generalize eg3 : wrI q2.2 238 k q2.1 = g3 at j3
  refine Ok.bind (sr_bounded j3.1.2.2.1) (fun q5 hq5 => ?_)
  refine Ok.pos im ?_
  have j5 := j3.p hq5.1
  have r5 : hi q5.2 237 s = hi h 237 s := (hq5.1.1 237 s (pK226 (by decide))).trans ((hiA eg3 237 s (by decide)).trans r2)
  have j6 : jR s hC (wrI q5.2 239 k q5.1) := j5.wx (Or.inl ⟨by decide, by rw [r5]; exact ix.2⟩)
  generalize eg6 : wrI q5.2 239 k q5.1 = g6 at j6
  refine Ok.bind (sr_bounded j6.1.2.2.1) (fun q8 hq8 => ?_)
  refine Ok.pos im ?_
  have j8 := j6.p hq8.1
  have r8 : hi q8.2 237 s = hi h 237 s := (hq8.1.1 237 s (pK226 (by decide))).trans ((hiA eg6 237 s (by decide)).trans r5)
  have j9 : jR s hC (wrI q8.2 240 k q8.1) := j8.wx (Or.inl ⟨by decide, by rw [r8]; exact ix.2⟩)
  generalize eg9 : wrI q8.2 240 k q8.1 = g9 at j9
  refine Ok.pos im ?_
  have v9 : hi g9 240 k = q8.1 := hiE eg9
  rw [v9]
  have r9 : hi g9 237 s = hi h 237 s := (hiA eg9 237 s (by decide)).trans r8
  have t3 (z : Nat) : hi g3 226 z = hi q2.2 226 z := hiA eg3 226 z (by decide)
  have t6 (z : Nat) : hi g6 226 z = hi q5.2 226 z := hiA eg6 226 z (by decide)
  have t9 (z : Nat) : hi g9 226 z = hi q8.2 226 z := hiA eg9 226 z (by decide)
  have fin (y : Int32) (hy : q8.1.toInt ≤ 6 → 2 ≤ q8.1.toInt → y.toInt < q8.1.toInt) : Ok ((F_X12_bounded n g9 0 y).bind (fun q13 => (if ixOK (8 * hi h 226 19 + hi h 237 s) 16 = true then ((F_X12_must n (wrI q13.2 241 k q13.1) 4).bind (fun q16 => (if ((hi q16 226 13) : Int32) = 0 then (if ixOK (hi q16 226 19) 2 = true then (if ixOK (hi q16 226 19) 2 = true then some (wrI q16 237 (Int32.toNatClampNeg (hi q16 226 19)) ((hi q16 237 (Int32.toNatClampNeg (hi q16 226 19))) + 1)) else none) else none) else some q16))) else none))) (fun q => jR s hC q ∧ (hi h 226 11).toInt ≤ (hi q 226 11).toInt ∧ ((hi q 226 13).toInt = 0 → (hi h 226 13).toInt = 0)) := by
    refine Ok.bind (sr_bounded j9.1.2.2.1) (fun q13 hq13 => ?_)
    refine Ok.pos im ?_
    have j13 := j9.p hq13.1
    have r13 : hi q13.2 237 s = hi h 237 s := (hq13.1.1 237 s (pK226 (by decide))).trans r9
    have j14 : jR s hC (wrI q13.2 241 k q13.1) := j13.wx (Or.inl ⟨by decide, by rw [r13]; exact ix.2⟩)
    generalize eg14 : wrI q13.2 241 k q13.1 = g14 at j14
    have t14 (z : Nat) : hi g14 226 z = hi q13.2 226 z := hiA eg14 226 z (by decide)
    refine Ok.bind (sr_must j14.1.2.2.1) (fun q hq => ?_)
    have jq := j14.p hq.1
    have m1 := hq2.1.2.2.2.1
    have m2 := hq5.1.2.2.2.1
    have m3 := hq8.1.2.2.2.1
    have m4 := hq13.1.2.2.2.1
    have m5 := hq.1.2.2.2.1
    have b5 := hq.2
    have b4 := hq13.2
    have b3 := hq8.2
    have b2 := hq5.2
    have b1 := hq2.2
    have u5 := hq.1.2.2.2.2.2
    have u4 := hq13.1.2.2.2.2.2
    have u3 := hq8.1.2.2.2.2.2
    have u2 := hq5.1.2.2.2.2.2
    have u1 := hq2.1.2.2.2.2.2
    rw [t3] at m2 b2 u2
    rw [t6] at m3 b3 u3
    rw [t9] at m4 b4 u4
    rw [t14] at m5 b5 u5
    rw [t3] at b2
    rw [t6] at b3
    rw [t9] at b4
    rw [t14] at b5
    have f0 := lit_0
    have f1 := lit_1
    refine Ok.eq (fun c1 => ?_) (fun c1 => Ok.ret ⟨jq, by omega, fun z => by omega⟩)
    obtain ⟨k1, k2⟩ := jq.side hs
    refine Ok.pos k1 (Ok.pos k1 ?_)
    rw [k2]
    have rq (a z : Nat) (h1 : a ≠ 226) : hi q a z = hi g14 a z := hq.1.1 a z (pK226 h1)
    have rq13 (a z : Nat) (h1 : a ≠ 226) : hi q13.2 a z = hi g9 a z := hq13.1.1 a z (pK226 h1)
    have rq8 (a z : Nat) (h1 : a ≠ 226) : hi q8.2 a z = hi g6 a z := hq8.1.1 a z (pK226 h1)
    have rq5 (a z : Nat) (h1 : a ≠ 226) : hi q5.2 a z = hi g3 a z := hq5.1.1 a z (pK226 h1)
    have w237 : hi q 237 s = hi h 237 s := (rq 237 s (by decide)).trans ((hiA eg14 237 s (by decide)).trans r13)
    have w241 : hi q 241 k = q13.1 := by rw [rq 241 k (by decide)]; exact hiE eg14
    have w240 : hi q 240 k = q8.1 := by rw [rq 240 k (by decide), hiA eg14 240 k (by decide), rq13 240 k (by decide)]; exact v9
    have w239 : hi q 239 k = q5.1 := by rw [rq 239 k (by decide), hiA eg14 239 k (by decide), rq13 239 k (by decide), hiA eg9 239 k (by decide), rq8 239 k (by decide)]; exact hiE eg6
    have w238 : hi q 238 k = q2.1 := by rw [rq 238 k (by decide), hiA eg14 238 k (by decide), rq13 238 k (by decide), hiA eg9 238 k (by decide), rq8 238 k (by decide), hiA eg6 238 k (by decide), rq5 238 k (by decide)]; exact hiE eg3
    rw [w237]
    have a1 := adT (hi h 237 s) 1 (by omega) (by omega)
    have cq := jq.1.2.2.2.1
    have rn (a z : Nat) (ha : a ≠ 237) : hi (wrI q 237 s (hi h 237 s + 1)) a z = hi q a z := by rw [hi_wrI, if_neg (fun w => ha w.1)]
    have rc : hi (wrI q 237 s (hi h 237 s + 1)) 237 s = hi h 237 s + 1 := by rw [hi_wrI, if_pos ⟨rfl, rfl⟩]
    refine Ok.ret ⟨jq.w (by decide) (by decide) (by decide) (by unfold frB; omega) ?_ (fun z1 z2 vl => ?_), by rw [rn 226 11 (by decide)]; omega, fun z => by rw [rn 226 13 (by decide)] at z; omega⟩
    · unfold cnB
      rw [rc, rn 242 s (by decide), rn 226 20 (by decide), rn 245 s (by decide)]
      exact ⟨by omega, cq.2⟩
    · obtain ⟨v1, v2, v3, v4, v5⟩ := vl
      unfold vlO
      rw [rc, rn 235 s (by decide), rn 236 s (by decide), rn 242 s (by decide), rn 245 s (by decide)]
      refine ⟨v1, v2, fun i il => ?_, fun i il => ?_, fun i il => ?_⟩
      · rw [rn 238 _ (by decide), rn 239 _ (by decide), rn 240 _ (by decide), rn 241 _ (by decide)]
        by_cases zz : (i : Int) < (hi h 237 s).toInt
        · exact v3 i (by rw [w237]; exact zz)
        · have ei : 8 * s + i = k := by omega
          rw [ei, w238, w239, w240, w241]
          have y5 := b5 (by omega)
          have y4 := b4 y5.1
          have y3 := b3 y4.1
          have y2 := b2 y3.1
          have y1 := b1 y2.1
          have x4 := y4.2.2 (u5 z2)
          have x3 := y3.2.2 (u4 (u5 z2))
          have x2 := y2.2.2 (u3 (u4 (u5 z2)))
          have x1 := y1.2.2 (u2 (u3 (u4 (u5 z2))))
          have f4 := lit_4
          have f2 := lit_2
          have f6 := lit_6
          have := hy (by omega) (by omega)
          unfold in4
          omega
      · rw [rn 243 _ (by decide), rn 244 _ (by decide)]
        exact v4 i il
      · rw [rn 246 _ (by decide), rn 247 _ (by decide)]
        exact v5 i il
  have f5 := lit_5
  refine Ok.ite (fun c1 => fin 5 (fun q1 q2 => ?_)) (fun c1 => ?_)
  · have := Int32.le_iff_toInt_le.mp c1
    generalize ey : (q8.1 - 1 : Int32) = y at this
    have fy := sbG ey rfl lit_1 (by omega) (by omega)
    omega
  · refine Ok.pos im ?_
    refine fin (q8.1 - 1) (fun q1 q2 => ?_)
    generalize ey : (q8.1 - 1 : Int32) = y
    have fy := sbG ey rfl lit_1 (by omega) (by omega)
    omega
end TL
end
section
/-! READING: ropes, goers -/
section TM
variable {s : Nat} {hC h : Hp}
theorem sr_rope {n : Nat} (hs : s ≤ 1) (j : jR s hC h) (t8 : (hi h 245 s).toInt < 8) : Ok (F_X12_tellRope n h) (fun q => jR s hC q ∧ (hi h 226 11).toInt ≤ (hi q 226 11).toInt ∧ ((hi q 226 13).toInt = 0 → (hi h 226 13).toInt = 0)) := by
  obtain ⟨i1, i2⟩ := j.side hs
  have j19 := j.1.2.1.2
  have c8 := j.1.2.2.2.1.2.2.2
  unfold F_X12_tellRope
  refine Ok.pos i1 ?_
  rw [i2]
  have ix := i8 j19 hs c8.1 c8.2
  have im : ixOK (8 * hi h 226 19 + hi h 245 s) 16 = true := ixT (by omega) (by omega)
  generalize ek : Int32.toNatClampNeg (8 * hi h 226 19 + hi h 245 s) = k
  rw [ek] at ix
  refine Ok.bind (sr_bounded j.1.2.2.1) (fun q2 hq2 => ?_)
  refine Ok.pos im ?_
  have j2 := j.p hq2.1
  have r2 : hi q2.2 245 s = hi h 245 s := hq2.1.1 245 s (pK226 (by decide))
  have j3 : jR s hC (wrI q2.2 246 k q2.1) := j2.wx (Or.inr (Or.inr ⟨by decide, by rw [r2]; exact ix.2⟩))
  generalize eg3 : wrI q2.2 246 k q2.1 = g3 at j3
  refine Ok.bind (sr_bounded j3.1.2.2.1) (fun q13 hq13 => ?_)
  refine Ok.pos im ?_
  have j13 := j3.p hq13.1
  have r13 : hi q13.2 245 s = hi h 245 s := (hq13.1.1 245 s (pK226 (by decide))).trans ((hiA eg3 245 s (by decide)).trans r2)
  have j14 : jR s hC (wrI q13.2 247 k q13.1) := j13.wx (Or.inr (Or.inr ⟨by decide, by rw [r13]; exact ix.2⟩))
  generalize eg14 : wrI q13.2 247 k q13.1 = g14 at j14
  have t3 (z : Nat) : hi g3 226 z = hi q2.2 226 z := hiA eg3 226 z (by decide)
  have t14 (z : Nat) : hi g14 226 z = hi q13.2 226 z := hiA eg14 226 z (by decide)
  refine Ok.bind (sr_must j14.1.2.2.1) (fun q hq => ?_)
  have jq := j14.p hq.1
  have m1 := hq2.1.2.2.2.1
  have m4 := hq13.1.2.2.2.1
  have m5 := hq.1.2.2.2.1
  have b5 := hq.2
  have b4 := hq13.2
  have b1 := hq2.2
  have u5 := hq.1.2.2.2.2.2
  have u4 := hq13.1.2.2.2.2.2
  rw [t3] at m4 b4 u4
  rw [t14] at m5 b5 u5
  rw [t3] at b4
  rw [t14] at b5
  have f0 := lit_0
  have f1 := lit_1
  refine Ok.eq (fun c1 => ?_) (fun c1 => Ok.ret ⟨jq, by omega, fun z => by omega⟩)
  obtain ⟨k1, k2⟩ := jq.side hs
  refine Ok.pos k1 (Ok.pos k1 ?_)
  rw [k2]
  have rq (a z : Nat) (h1 : a ≠ 226) : hi q a z = hi g14 a z := hq.1.1 a z (pK226 h1)
  have rq13 (a z : Nat) (h1 : a ≠ 226) : hi q13.2 a z = hi g3 a z := hq13.1.1 a z (pK226 h1)
  have w245 : hi q 245 s = hi h 245 s := (rq 245 s (by decide)).trans ((hiA eg14 245 s (by decide)).trans r13)
  have w247 : hi q 247 k = q13.1 := by rw [rq 247 k (by decide)]; exact hiE eg14
  have w246 : hi q 246 k = q2.1 := by rw [rq 246 k (by decide), hiA eg14 246 k (by decide), rq13 246 k (by decide)]; exact hiE eg3
  rw [w245]
  have a1 := adT (hi h 245 s) 1 (by omega) (by omega)
  have cq := jq.1.2.2.2.1
  have rn (a z : Nat) (ha : a ≠ 245) : hi (wrI q 245 s (hi h 245 s + 1)) a z = hi q a z := by rw [hi_wrI, if_neg (fun w => ha w.1)]
  have rc : hi (wrI q 245 s (hi h 245 s + 1)) 245 s = hi h 245 s + 1 := by rw [hi_wrI, if_pos ⟨rfl, rfl⟩]
  refine Ok.ret ⟨jq.w (by decide) (by decide) (by decide) (by unfold frB; omega) ?_ (fun z1 z2 vl => ?_), by rw [rn 226 11 (by decide)]; omega, fun z => by rw [rn 226 13 (by decide)] at z; omega⟩
  · unfold cnB
    rw [rc, rn 242 s (by decide), rn 226 20 (by decide), rn 237 s (by decide)]
    exact ⟨cq.1, cq.2.1, cq.2.2.1, by omega⟩
  · obtain ⟨v1, v2, v3, v4, v5⟩ := vl
    unfold vlO
    rw [rc, rn 235 s (by decide), rn 236 s (by decide), rn 242 s (by decide), rn 237 s (by decide)]
    refine ⟨v1, v2, fun i il => ?_, fun i il => ?_, fun i il => ?_⟩
    · rw [rn 238 _ (by decide), rn 239 _ (by decide), rn 240 _ (by decide), rn 241 _ (by decide)]
      exact v3 i il
    · rw [rn 243 _ (by decide), rn 244 _ (by decide)]
      exact v4 i il
    · rw [rn 246 _ (by decide), rn 247 _ (by decide)]
      by_cases zz : (i : Int) < (hi h 245 s).toInt
      · exact v5 i (by rw [w245]; exact zz)
      · have ei : 8 * s + i = k := by omega
        rw [ei, w246, w247]
        have y5 := b5 (by omega)
        have y4 := b4 y5.1
        have y1 := b1 y4.1
        have x4 := y4.2.2 (u5 z2)
        have x1 := y1.2.2 (u4 (u5 z2))
        have f4 := lit_4
        unfold in4
        omega
/-- one goer more -/
theorem jR.goer {q : Hp} (hs : s ≤ 1) (j : jR s hC q) (fz : (hi q 226 13).toInt = 0) (g5 : (hi q 242 s).toInt < 5) {k : Nat} (hk : (k : Int) = 5 * s + (hi q 242 s).toInt) (ok : (hi q 226 15).toInt = 0 → in4 (hi q 243 k) ∧ in4 (hi q 244 k)) {i : Nat} {v : Int64} : jR s hC (wrI (wrI (wrL q 234 i v) 226 20 (hi q 226 20 + 1)) 242 s (hi q 242 s + 1)) := by
  have n5 := (j.2 fz).2.1
  have f1 := lit_1
  have a1 := adT (hi q 242 s) 1 (by have := j.1.2.2.2.1; unfold cnB at this; omega) (by omega)
  have a2 := adT (hi q 226 20) 1 (by have := j.1.2.2.2.1; unfold cnB at this; omega) (by omega)
  obtain ⟨⟨⟨b1, b2⟩, ⟨b3, b4⟩, b5, b6, b7, b8⟩, g⟩ := j
  generalize eq : wrI (wrI (wrL q 234 i v) 226 20 (hi q 226 20 + 1)) 242 s (hi q 242 s + 1) = r
  have rr (a z : Nat) (h1 : ¬ (a = 226 ∧ z = 20)) (h2 : ¬ (a = 242 ∧ z = s)) : hi r a z = hi q a z := by
    rw [← eq, hi_wrI, if_neg h2, hi_wrI, if_neg h1]
    rfl
  have r20 : hi r 226 20 = hi q 226 20 + 1 := by rw [← eq, hi_wrI, if_neg (by omega), hi_wrI, if_pos ⟨rfl, rfl⟩]
  have r42 : hi r 242 s = hi q 242 s + 1 := by rw [← eq, hi_wrI, if_pos ⟨rfl, rfl⟩]
  have r2 (z : Nat) (h1 : z ≠ 20) : hi r 226 z = hi q 226 z := rr 226 z (by omega) (by omega)
  obtain ⟨c1, c2, c3, c4⟩ := b6
  refine ⟨⟨⟨fun a z q1 => ?_, fun a z q1 => ?_⟩, ⟨by rw [r2 2 (by decide)]; exact b3, by rw [r2 19 (by decide)]; exact b4⟩, ?_, ?_, by rw [r2 45 (by decide), r2 11 (by decide)]; exact b7, by rw [r2 39 (by decide)]; exact b8⟩, fun z => ?_⟩
  · rw [rr a z (by unfold frB at q1; omega) (by unfold frB at q1; omega)]
    exact b1 a z q1
  · rw [← eq]
    show up2 (hl q) 234 i v a z = _
    unfold up2
    rw [if_neg (fun w => by omega)]
    exact b2 a z q1
  · show (0 ≤ (hi r 226 11).toInt ∧ (hi r 226 11).toInt ≤ 400) ∧ 0 ≤ (hi r 226 13).toInt ∧ 0 ≤ (hi r 226 15).toInt
    rw [r2 11 (by decide), r2 13 (by decide), r2 15 (by decide)]
    exact b5
  · unfold cnB
    rw [r20, r42, rr 237 s (by omega) (by omega), rr 245 s (by omega) (by omega)]
    omega
  · obtain ⟨g1, g2, g3, g4, g5', g6⟩ := g fz
    refine ⟨by rw [r2 12 (by decide)]; exact g1, by rw [r20, r42]; omega, by rw [r2 45 (by decide), r2 11 (by decide)]; exact g3, by rw [r2 39 (by decide), r2 11 (by decide)]; exact g4, fun w => ?_, g6.cg (fun a z h1 h2 => rr a z (by omega) (by omega)) (by rw [r2 39 (by decide)]; omega) (by rw [r2 45 (by decide)]; omega)⟩
    rw [r2 15 (by decide)] at w
    obtain ⟨v1, v2, v3, v4, v5⟩ := g5' w
    have rt (a z : Nat) (h1 : a ≠ 226) (h2 : a ≠ 242) : hi r a z = hi q a z := rr a z (by omega) (by omega)
    unfold vlO
    rw [r42, rt 235 s (by decide) (by decide), rt 236 s (by decide) (by decide), rt 237 s (by decide) (by decide), rt 245 s (by decide) (by decide)]
    refine ⟨v1, v2, fun i il => ?_, fun i il => ?_, fun i il => ?_⟩
    · rw [rt 238 _ (by decide) (by decide), rt 239 _ (by decide) (by decide), rt 240 _ (by decide) (by decide), rt 241 _ (by decide) (by decide)]
      exact v3 i il
    · rw [rt 243 _ (by decide) (by decide), rt 244 _ (by decide) (by decide)]
      by_cases zz : (i : Int) < (hi q 242 s).toInt
      · exact v4 i zz
      · have ei : 5 * s + i = k := by omega
        rw [ei]
        exact ok w
    · rw [rt 246 _ (by decide) (by decide), rt 247 _ (by decide) (by decide)]
      exact v5 i il
set_option maxHeartbeats 4000000 in
theorem sr_goerL (hs : s ≤ 1) {l1 l2 : Int32} {T0 : Int} (k0 : 0 ≤ l1.toInt) (k1 : l1.toInt < 5 * s + 5) (y0 : 0 ≤ l2.toInt) (y1 : l2.toInt ≤ 400) : ∀ n : Nat, ∀ (h : Hp) (l3 : Int32), jR s hC h → l1.toInt = 5 * s + (hi h 242 s).toInt → T0 ≤ (hi h 226 11).toInt → 0 ≤ l3.toInt → (1 : Int) < n → (1 : Int) + (6 - l3.toInt) < n → Ok (W_X12_tellGoer n 29 h l1 l2 l3) (fun q => jR s hC q ∧ T0 ≤ (hi q 226 11).toInt ∧ ((hi q 226 13).toInt = 0 → (hi h 226 13).toInt = 0)) := by
  intro n
  induction n with
  | zero => intro h l3 j a b c d e; exfalso; omega
  | succ n ih =>
    intro h l3 j a b c d e
    have f0 := lit_0
    have f1 := lit_1
    have cn := j.1.2.2.2.1
    have cn2 := cn.2.1
    have cn3 := cn.2.2.1
    have nk := ncT k0
    have nl := ncT y0
    have n3 := ncT c
    have im : ixOK l1 10 = true := ixT (by omega) (by omega)
    have iy : ixOK l2 403 = true := ixT (by omega) (by omega)
    rw [u_X12_tellGoer]
    refine Ok.pos rfl ?_
    have fin : Ok ((F_X12_bounded n h 0 4).bind (fun q2 => (if ixOK l1 10 = true then ((F_X12_bounded n (wrI q2.2 243 (Int32.toNatClampNeg l1) q2.1) 0 4).bind (fun q5 => (if ixOK l1 10 = true then ((F_X12_must n (wrI q5.2 244 (Int32.toNatClampNeg l1) q5.1) 4).bind (fun q8 => (if ((hi q8 226 13) : Int32) ≤ 0 then (if ixOK l2 403 = true then (if ixOK (hi q8 226 20) 5 = true then (if ixOK (hi (wrI (wrL q8 234 (Int32.toNatClampNeg (hi q8 226 20)) (hl q8 232 (Int32.toNatClampNeg l2))) 226 20 ((hi (wrL q8 234 (Int32.toNatClampNeg (hi q8 226 20)) (hl q8 232 (Int32.toNatClampNeg l2))) 226 20) + 1)) 226 19) 2 = true then (if ixOK (hi (wrI (wrL q8 234 (Int32.toNatClampNeg (hi q8 226 20)) (hl q8 232 (Int32.toNatClampNeg l2))) 226 20 ((hi (wrL q8 234 (Int32.toNatClampNeg (hi q8 226 20)) (hl q8 232 (Int32.toNatClampNeg l2))) 226 20) + 1)) 226 19) 2 = true then some (wrI (wrI (wrL q8 234 (Int32.toNatClampNeg (hi q8 226 20)) (hl q8 232 (Int32.toNatClampNeg l2))) 226 20 ((hi (wrL q8 234 (Int32.toNatClampNeg (hi q8 226 20)) (hl q8 232 (Int32.toNatClampNeg l2))) 226 20) + 1)) 242 (Int32.toNatClampNeg (hi (wrI (wrL q8 234 (Int32.toNatClampNeg (hi q8 226 20)) (hl q8 232 (Int32.toNatClampNeg l2))) 226 20 ((hi (wrL q8 234 (Int32.toNatClampNeg (hi q8 226 20)) (hl q8 232 (Int32.toNatClampNeg l2))) 226 20) + 1)) 226 19)) ((hi (wrI (wrL q8 234 (Int32.toNatClampNeg (hi q8 226 20)) (hl q8 232 (Int32.toNatClampNeg l2))) 226 20 ((hi (wrL q8 234 (Int32.toNatClampNeg (hi q8 226 20)) (hl q8 232 (Int32.toNatClampNeg l2))) 226 20) + 1)) 242 (Int32.toNatClampNeg (hi (wrI (wrL q8 234 (Int32.toNatClampNeg (hi q8 226 20)) (hl q8 232 (Int32.toNatClampNeg l2))) 226 20 ((hi (wrL q8 234 (Int32.toNatClampNeg (hi q8 226 20)) (hl q8 232 (Int32.toNatClampNeg l2))) 226 20) + 1)) 226 19))) + 1)) else none) else none) else none) else none) else some q8))) else none))) else none))) (fun q => jR s hC q ∧ T0 ≤ (hi q 226 11).toInt ∧ ((hi q 226 13).toInt = 0 → (hi h 226 13).toInt = 0)) := by
      generalize ek : Int32.toNatClampNeg l1 = k
      rw [ek] at nk
      refine Ok.bind (sr_bounded j.1.2.2.1) (fun q2 hq2 => ?_)
      refine Ok.pos im ?_
      have j2 := j.p hq2.1
      have r2 : hi q2.2 242 s = hi h 242 s := hq2.1.1 242 s (pK226 (by decide))
      have j3 : jR s hC (wrI q2.2 243 k q2.1) := j2.wx (Or.inr (Or.inl ⟨by decide, by rw [r2]; omega⟩))
      generalize eg3 : wrI q2.2 243 k q2.1 = g3 at j3
      refine Ok.bind (sr_bounded j3.1.2.2.1) (fun q13 hq13 => ?_)
      refine Ok.pos im ?_
      have j13 := j3.p hq13.1
      have r13 : hi q13.2 242 s = hi h 242 s := (hq13.1.1 242 s (pK226 (by decide))).trans ((hiA eg3 242 s (by decide)).trans r2)
      have j14 : jR s hC (wrI q13.2 244 k q13.1) := j13.wx (Or.inr (Or.inl ⟨by decide, by rw [r13]; omega⟩))
      generalize eg14 : wrI q13.2 244 k q13.1 = g14 at j14
      have t3 (z : Nat) : hi g3 226 z = hi q2.2 226 z := hiA eg3 226 z (by decide)
      have t14 (z : Nat) : hi g14 226 z = hi q13.2 226 z := hiA eg14 226 z (by decide)
      refine Ok.bind (sr_must j14.1.2.2.1) (fun q hq => ?_)
      have jq := j14.p hq.1
      have m1 := hq2.1.2.2.2.1
      have m4 := hq13.1.2.2.2.1
      have m5 := hq.1.2.2.2.1
      have b5 := hq.2
      have b4 := hq13.2
      have b1 := hq2.2
      have u5 := hq.1.2.2.2.2.2
      have u4 := hq13.1.2.2.2.2.2
      rw [t3] at m4 b4 u4
      rw [t14] at m5 b5 u5
      rw [t3] at b4
      rw [t14] at b5
      have tq := jq.1.2.2.1.2.1
      refine Ok.le (fun c1 => ?_) (fun c1 => Ok.ret ⟨jq, by omega, fun z => by omega⟩)
      have fz : (hi q 226 13).toInt = 0 := by omega
      refine Ok.pos iy ?_
      have rq (a z : Nat) (h1 : a ≠ 226) : hi q a z = hi g14 a z := hq.1.1 a z (pK226 h1)
      have rq13 (a z : Nat) (h1 : a ≠ 226) : hi q13.2 a z = hi g3 a z := hq13.1.1 a z (pK226 h1)
      have w242 : hi q 242 s = hi h 242 s := (rq 242 s (by decide)).trans ((hiA eg14 242 s (by decide)).trans r13)
      have w244 : hi q 244 k = q13.1 := by rw [rq 244 k (by decide)]; exact hiE eg14
      have w243 : hi q 243 k = q2.1 := by rw [rq 243 k (by decide), hiA eg14 243 k (by decide), rq13 243 k (by decide)]; exact hiE eg3
      have eqn := (jq.2 fz).2.1
      rw [w242] at eqn
      have cq := jq.1.2.2.2.1
      refine Ok.chk (ixT (by omega) (by omega)) (fun c2 => ?_)
      have e20 (i : Nat) (v : Int64) : hi (wrL q 234 i v) 226 20 = hi q 226 20 := rfl
      rw [e20]
      have e19 (i : Nat) (v : Int64) : hi (wrI (wrL q 234 i v) 226 20 (hi q 226 20 + 1)) 226 19 = hi q 226 19 := by
        rw [hi_wrI, if_neg (by decide)]
        rfl
      rw [e19]
      obtain ⟨k1', k2'⟩ := jq.side hs
      refine Ok.pos k1' (Ok.pos k1' ?_)
      rw [k2']
      have e42 (i : Nat) (v : Int64) : hi (wrI (wrL q 234 i v) 226 20 (hi q 226 20 + 1)) 242 s = hi q 242 s := by
        rw [hi_wrI, if_neg (by omega)]
        rfl
      rw [e42]
      have y5 := b5 (by omega)
      have y4 := b4 y5.1
      have y1' := b1 y4.1
      refine Ok.ret ⟨jq.goer hs fz (by rw [w242]; omega) (k := k) (by rw [w242]; omega) (fun z2 => ?_), ?_, fun _ => y1'.1⟩
      · rw [w243, w244]
        have x4 := y4.2.2 (u5 z2)
        have x1 := y1'.2.2 (u4 (u5 z2))
        have f4 := lit_4
        unfold in4
        omega
      · rw [hi_wrI, if_neg (by omega), hi_wrI, if_neg (by decide)]
        show T0 ≤ (hi q 226 11).toInt
        omega
    refine Ok.le (fun _ => fin) (fun c1 => ?_)
    refine Ok.eq (fun c2 => ?_) (fun _ => fin)
    have f5 := adT l3 1 (by omega) (by omega)
    refine Ok.chk (ixT (by omega) (by omega)) (fun c3 => ?_)
    refine Ok.pos iy ?_
    refine Ok.ite (fun _ => ?_) (fun _ => ih h (l3 + 1) j a b (by omega) (by omega) (by omega))
    refine Ok.bind (sr_wrong j.1.2.2.1 (by decide) y0 y1) (fun q32 hq32 => ?_)
    refine (ih q32 (l3 + 1) (j.p hq32.1) (by rw [hq32.1.1 242 s (pK226 (by decide))]; exact a) (by have := hq32.1.2.2.2.1; omega) (by omega) (by omega) (by omega)).mono (fun q hq => ⟨hq.1, hq.2.1, fun z => ?_⟩)
    have := hq.2.2 z
    rw [hq32.2.2.1] at this
    exact this
theorem sr_goer {n : Nat} (hn : 100 ≤ n) (hs : s ≤ 1) (j : jR s hC h) (g5 : (hi h 242 s).toInt < 5) : Ok (F_X12_tellGoer n h) (fun q => jR s hC q ∧ (hi h 226 11).toInt ≤ (hi q 226 11).toInt ∧ ((hi q 226 13).toInt = 0 → (hi h 226 13).toInt = 0)) := by
  obtain ⟨i1, i2⟩ := j.side hs
  have j19 := j.1.2.1.2
  have c8 := j.1.2.2.2.1.2.1
  have t := j.1.2.2.1
  have t1 := t.1
  have f0 := lit_0
  unfold F_X12_tellGoer
  refine Ok.pos i1 ?_
  rw [i2]
  refine Ok.bind (sr_must t) (fun q hq => ?_)
  have f1 := mlT 5 (hi h 226 19) 5 lit_5 (by omega) (by omega)
  have f2 := lit_5
  have f3 := adT (5 * hi h 226 19) (hi h 242 s) (by omega) (by omega)
  have r2 : hi q 242 s = hi h 242 s := hq.1.1 242 s (pK226 (by decide))
  have m1 := hq.1.2.2.2.1
  refine (sr_goerL hs (T0 := (hi h 226 11).toInt) (by omega) (by omega) t1.1 t1.2 n q 0 (j.p hq.1) (by rw [r2]; omega) m1 (by omega) (by omega) (by omega)).mono (fun r hr => ⟨hr.1, hr.2.1, fun z => (hq.2 (hr.2.2 z)).1⟩)
end TM
end
section
/-! READING: laws -/
theorem oc_cg {f fi g gi : Nat → Int32} {s e : Nat} (c1 : ∀ i, s ≤ i → i < e → g i = f i) (c2 : ∀ i, s ≤ i → i < e → gi i = fi i) (o : ocO f fi s e) : ocO g gi s e := by
  refine ⟨o.1, o.2.1, fun m hm => ?_⟩
  have o1 := o.1
  rw [dp_cg (f := g) (g := f) m (fun i h1 h2 => c1 i h1 (by omega)), c1 (s + m) (by omega) (by omega), c2 (s + m) (by omega) (by omega)]
  exact o.2.2 m hm
theorem oi_cg {f fi g gi : Nat → Int32} {x y : Int32} (T : Int) (hy : y.toInt ≤ T) (c1 : ∀ i : Nat, (i : Int) < T → g i = f i) (c2 : ∀ i : Nat, (i : Int) < T → gi i = fi i) (o : oiO f fi x y) : oiO g gi x y := by
  have ny := ncT o.2.1
  exact ⟨o.1, o.2.1, oc_cg (fun i _ h2 => c1 i (by omega)) (fun i _ h2 => c2 i (by omega)) o.2.2⟩
theorem oi_le {f fi : Nat → Int32} {x y : Int32} (o : oiO f fi x y) : x.toInt ≤ y.toInt := by
  have n1 := ncT o.1
  have n2 := ncT o.2.1
  have := o.2.2.1
  omega
/-- a branch stands, where orders below its end and its own row are as they were -/
theorem ob_cx {L : Int} {h h' : Hp} {b : Nat} (f : ∀ a, 252 ≤ a → a ≤ 256 → hi h' a b = hi h a b) (g : ∀ a (k : Nat), (a = 257 ∨ a = 258) → (k : Int) < (hi h 256 b).toInt → hi h' a k = hi h a k) (o : obO L h b) : obO L h' b := by
  obtain ⟨o1, o2, o3, o4, o5⟩ := o
  have e2 := oi_le o2
  unfold obO
  rw [f 252 (by decide) (by decide), f 253 (by decide) (by decide), f 254 (by decide) (by decide), f 255 (by decide) (by decide), f 256 (by decide) (by decide)]
  have c1 : ∀ i : Nat, (i : Int) < (hi h 256 b).toInt → hi h' 257 i = hi h 257 i := fun i h1 => g 257 i (Or.inl rfl) h1
  have c2 : ∀ i : Nat, (i : Int) < (hi h 256 b).toInt → hi h' 258 i = hi h 258 i := fun i h1 => g 258 i (Or.inr rfl) h1
  refine ⟨fun q => ?_, oi_cg _ (Int.le_refl _) c1 c2 o2, o3, o4, o5⟩
  obtain ⟨q1, q2⟩ := o1 q
  have e1 := oi_le q2
  exact ⟨oi_cg _ (by omega) c1 c2 q1, oi_cg _ (by omega) c1 c2 q2⟩
/-- what an expression leaves -/
def xR (c0 : Nat) (h q : Hp) : Prop := ((∀ a x, eK c0 a x = false → hi q a x = hi h a x) ∧ (∀ a x, hl q a x = hl h a x)) ∧ tI q ∧ (((hi q 226 13).toInt = 0 → (hi h 226 13).toInt = 0) ∧ ((hi q 226 15).toInt = 0 → (hi h 226 15).toInt = 0) ∧ (hi h 226 11).toInt ≤ (hi q 226 11).toInt) ∧ ∃ c : Nat, (hi q 226 45).toInt = c ∧ c0 ≤ c ∧ (c : Int) ≤ c0 + (hi q 226 11).toInt - (hi h 226 11).toInt + 2 ∧ ((hi q 226 13).toInt = 0 → (hi q 226 12).toInt = 0 ∧ ocO (hi q 257) (hi q 258) c0 c ∧ (c : Int) ≤ c0 + (hi q 226 11).toInt - (hi h 226 11).toInt ∧ (hi h 226 11).toInt + 1 ≤ (hi q 226 11).toInt)
theorem sr_expr {n : Nat} {h : Hp} {c0 : Nat} (hn : 3000 ≤ n) (t : tI h) (fz : (hi h 226 13).toInt = 0) (op : (hi h 226 12).toInt = 0) (hc : (hi h 226 45).toInt = c0) (b : bO c0 h) : Ok (F_X12_expression n h) (fun q => xR c0 h q) := by
  have t1 := t.1
  have bb1 := b.1
  have bb2 := b.2
  have f0 := lit_0
  have r (k : Nat) (hk : k ≠ 49) : hi (wrI h 226 49 0) 226 k = hi h 226 k := by rw [hi_wrI, if_neg (by omega)]
  have ra (a k : Nat) (hk : a ≠ 226) : hi (wrI h 226 49 0) a k = hi h a k := by rw [hi_wrI, if_neg (by omega)]
  have e : eC h c0 (wrI h 226 49 0) c0 0 0 0 0 0 := by
    refine ⟨⟨fun a x q => ?_, fun _ _ => rfl⟩, tI_w t (by decide) (by decide) (by decide), ?_, ⟨by rw [r 45 (by decide)]; exact hc, by rw [hi_wrI, if_pos ⟨rfl, rfl⟩]; exact f0, by rw [r 12 (by decide)]; omega, by decide⟩, rfl, oc_zero _ _ (by omega), by rw [Nat.sub_self]; rfl⟩
    · have w := eKq q
      rw [hi_wrI, if_neg (by omega)]
    · rw [r 13 (by decide), r 15 (by decide), r 11 (by decide)]
      exact ⟨fun q => q, fun q => q, Int.le_refl _⟩
  have x : eA h c0 (wrI h 226 49 0) c0 0 := by
    unfold eA
    rw [r 13 (by decide), r 11 (by decide)]
    exact ⟨fun _ => by omega, by omega⟩
  unfold F_X12_expression
  rw [r 12 (by decide)]
  refine ((sr_exl (hE := h) (l2 := 0) b op n).1 _ c0 0 0 0 0 1 (by decide) e x (fun _ => by decide) ⟨fun _ => ?_, ?_⟩).mono (fun q hq => ?_)
  · rw [r 11 (by decide)]; omega
  · rw [r 11 (by decide)]; omega
  · obtain ⟨c, n', k, O, P, D, e1, x1, y1⟩ := hq
    obtain ⟨q1, q2, q3, ⟨q4, -, q5, -⟩, -, q6, -⟩ := e1
    have x2 := x1.2
    refine ⟨q1, q2, q3, c, q4, q6.1, by omega, fun z => ?_⟩
    have x3 := x1.1 z
    have y2 := y1 z
    exact ⟨by omega, q6, by omega, y2.2⟩
def jG0 (s : Nat) (h : Hp) : Prop := (hi h 226 12).toInt = 0 ∧ (hi h 226 20).toInt = (hi h 242 s).toInt ∧ (hi h 226 45).toInt ≤ 420 * s + (hi h 226 11).toInt ∧ ((hi h 226 15).toInt = 0 → vlO s h) ∧ lwR s h
def jL (s : Nat) (hC h : Hp) : Prop := jB s hC h ∧ ((hi h 226 13).toInt = 0 → jG0 s h)
/-- the branches f .. of the law that is told -/
def cuO (s : Nat) (f : Int) (h : Hp) : Prop := 130 * (s : Int) ≤ f ∧ f ≤ (hi h 226 39).toInt ∧ ∀ b : Nat, f ≤ b → (b : Int) < (hi h 226 39).toInt → obO s h b ∧ (hi h 256 b).toInt ≤ (hi h 226 45).toInt
section LL
variable {s : Nat} {hC h h' : Hp}
theorem jR.l (j : jR s hC h) : jL s hC h := ⟨j.1, fun z => ⟨(j.2 z).1, (j.2 z).2.1, (j.2 z).2.2.1, (j.2 z).2.2.2.2⟩⟩
theorem jL.r (j : jL s hC h) (a : (hi h 226 13).toInt = 0 → 4 * ((hi h 226 39).toInt - 130 * s) ≤ (hi h 226 11).toInt) : jR s hC h := ⟨j.1, fun z => ⟨(j.2 z).1, (j.2 z).2.1, (j.2 z).2.2.1, a z, (j.2 z).2.2.2⟩⟩
theorem jL.p (j : jL s hC h) (p : pR h h') : jL s hC h' := by
  obtain ⟨⟨⟨b1, b2⟩, ⟨b3, b4⟩, b5, b6, b7, b8⟩, g⟩ := j
  obtain ⟨p1, p2, p3, p4, p5, p6⟩ := p
  have r (a k : Nat) (ha : a ≠ 226) : hi h' a k = hi h a k := p1 a k (pK226 ha)
  have e2 := p1 226 2 (by decide)
  have e19 := p1 226 19 (by decide)
  have e20 := p1 226 20 (by decide)
  have e12 := p1 226 12 (by decide)
  have e45 := p1 226 45 (by decide)
  have e39 := p1 226 39 (by decide)
  refine ⟨⟨⟨fun a k q => (p1 a k (frB_p q)).trans (b1 a k q), fun a k q => (p2 a k).trans (b2 a k q)⟩, ⟨by rw [e2]; exact b3, by rw [e19]; exact b4⟩, p3, ?_, by rw [e45]; omega, by rw [e39]; exact b8⟩, fun z => ?_⟩
  · unfold cnB
    rw [r 237 s (by decide), r 242 s (by decide), r 245 s (by decide), e20]
    exact b6
  · obtain ⟨g1, g2, g3, g5, g6⟩ := g (p5 z)
    refine ⟨by rw [e12]; exact g1, by rw [e20, r 242 s (by decide)]; exact g2, by rw [e45]; omega, fun w => (g5 (p6 w)).cg (fun a k h1 h2 => r a k (by omega)), g6.cg (fun a k h1 h2 => r a k (by omega)) (by rw [e39]; omega) (by rw [e45]; omega)⟩
theorem cuO.p {f : Int} (c : cuO s f h) (p : pR h h') : cuO s f h' := by
  have r (a k : Nat) (ha : a ≠ 226) : hi h' a k = hi h a k := p.1 a k (pK226 ha)
  unfold cuO
  rw [p.1 226 39 (by decide), p.1 226 45 (by decide)]
  refine ⟨c.1, c.2.1, fun b b1 b2 => ⟨(c.2.2 b b1 b2).1.cg (fun a k h1 h2 => r a k (by omega)), ?_⟩⟩
  rw [r 256 b (by decide)]
  exact (c.2.2 b b1 b2).2
/-- a write to the row of the branch that comes -/
theorem jL.wb (hs : s ≤ 1) (j : jL s hC h) {a k : Nat} {v : Int32} (h1 : 252 ≤ a) (h2 : a ≤ 256) (hk : (k : Int) = (hi h 226 39).toInt) : jL s hC (wrI h a k v) := by
  obtain ⟨⟨⟨b1, b2⟩, ⟨b3, b4⟩, b5, b6, b7, b8⟩, g⟩ := j
  have r (a' k' : Nat) (ha : ¬ (a' = a ∧ k' = k)) : hi (wrI h a k v) a' k' = hi h a' k' := by rw [hi_wrI, if_neg ha]
  have r2 (k' : Nat) : hi (wrI h a k v) 226 k' = hi h 226 k' := r 226 k' (by omega)
  refine ⟨⟨⟨fun a' k' q => ?_, fun a' k' q => b2 a' k' q⟩, ⟨by rw [r2]; exact b3, by rw [r2]; exact b4⟩, tI_a b5 (by omega), b6.w (by omega) (by omega) (by omega) (by omega), by rw [r2, r2]; exact b7, by rw [r2]; exact b8⟩, fun z => ?_⟩
  · rw [r a' k' (by unfold frB at q; omega)]
    exact b1 a' k' q
  · rw [r2] at z
    obtain ⟨g1, g2, g3, g5, g6⟩ := g z
    refine ⟨by rw [r2]; exact g1, by rw [r2, r 242 s (by omega)]; exact g2, by rw [r2, r2]; exact g3, fun w => (g5 (by rw [r2] at w; exact w)).cg (fun a' k' q1 q2 => r a' k' (by omega)), fun i q1 q2 => ?_⟩
    rw [r 250 i (by omega), r 251 i (by omega), r2, r2]
    rcases g6 i q1 q2 with q | ⟨y1, y2, y3⟩
    · exact Or.inl q
    · refine Or.inr ⟨y1, y2, fun b c1 c2 => ?_⟩
      have y := y3 b c1 c2
      rw [r 256 b (by omega)]
      exact ⟨ob_cx (fun a' q1 q2 => r a' b (by omega)) (fun a' k' q1 _ => r a' k' (by omega)) y.1, y.2⟩
theorem cuO.wb {f : Int} (c : cuO s f h) {a k : Nat} {v : Int32} (h1 : 252 ≤ a) (h2 : a ≤ 256) (hk : (k : Int) = (hi h 226 39).toInt) : cuO s f (wrI h a k v) := by
  have r (a' k' : Nat) (ha : ¬ (a' = a ∧ k' = k)) : hi (wrI h a k v) a' k' = hi h a' k' := by rw [hi_wrI, if_neg ha]
  unfold cuO
  rw [r 226 39 (by omega), r 226 45 (by omega)]
  refine ⟨c.1, c.2.1, fun b c1 c2 => ?_⟩
  have y := c.2.2 b c1 c2
  rw [r 256 b (by omega)]
  exact ⟨ob_cx (fun a' q1 q2 => r a' b (by omega)) (fun a' k' q1 _ => r a' k' (by omega)) y.1, y.2⟩
theorem eKn {c0 a k : Nat} (h1 : a ≠ 226) (h2 : a ≠ 259) (h3 : ¬ ((a = 257 ∨ a = 258) ∧ c0 ≤ k ∧ k < 420 * (c0 / 420) + 420)) : eK c0 a k = false := by
  simp only [eK, pK, Bool.or_eq_false_iff, Bool.and_eq_false_iff, beq_eq_false_iff_ne, decide_eq_false_iff_not]
  omega
/-- behind an expression -/
theorem jL.x (hs : s ≤ 1) (j : jL s hC h) (fz : (hi h 226 13).toInt = 0) {c0 : Nat} (hc : (hi h 226 45).toInt = c0) (x : xR c0 h h') : jL s hC h' := by
  obtain ⟨⟨⟨b1, b2⟩, ⟨b3, b4⟩, b5, b6, b7, b8⟩, g⟩ := j
  obtain ⟨⟨x1, x2⟩, x3, ⟨x4, x5, x6⟩, c, x7, x8, x9, x10⟩ := x
  obtain ⟨g1, g2, g3, g5, g6⟩ := g fz
  have tt := b5.1
  have r (a k : Nat) (h1 : a ≠ 226) (h2 : a ≠ 259) (h3 : ¬ ((a = 257 ∨ a = 258) ∧ c0 ≤ k ∧ k < 420 * (c0 / 420) + 420)) : hi h' a k = hi h a k := x1 a k (eKn h1 h2 h3)
  have e2 := x1 226 2 rfl
  have e19 := x1 226 19 rfl
  have e20 := x1 226 20 rfl
  have e39 := x1 226 39 rfl
  refine ⟨⟨⟨fun a k q => ?_, fun a k q => (x2 a k).trans (b2 a k q)⟩, ⟨by rw [e2]; exact b3, by rw [e19]; exact b4⟩, x3, ?_, by rw [x7]; omega, by rw [e39]; exact b8⟩, fun z => ?_⟩
  · by_cases c26 : a = 226
    · subst c26
      have : k = 18 ∨ k = 59 ∨ k = 65 := by unfold frB at q; omega
      rw [← b1 226 k q]
      rcases this with rfl | rfl | rfl
      · exact x1 226 18 rfl
      · exact x1 226 59 rfl
      · exact x1 226 65 rfl
    · rw [r a k c26 (by unfold frB at q; omega) (by unfold frB at q; omega)]
      exact b1 a k q
  · unfold cnB
    rw [r 237 s (by decide) (by decide) (by omega), r 242 s (by decide) (by decide) (by omega), r 245 s (by decide) (by decide) (by omega), e20]
    exact b6
  · obtain ⟨y1, y2, y3, y4⟩ := x10 z
    refine ⟨y1, by rw [e20, r 242 s (by decide) (by decide) (by omega)]; exact g2, by rw [x7]; omega, fun w => (g5 (x5 w)).cg (fun a k h1 h2 => r a k (by omega) (by omega) (by omega)), fun i q1 q2 => ?_⟩
    rw [r 250 i (by decide) (by decide) (by omega), r 251 i (by decide) (by decide) (by omega), e39, x7]
    rcases g6 i q1 q2 with q | ⟨w1, w2, w3⟩
    · exact Or.inl q
    · refine Or.inr ⟨w1, w2, fun b c1 c2 => ?_⟩
      have y := w3 b c1 c2
      rw [r 256 b (by decide) (by decide) (by omega)]
      exact ⟨ob_cx (fun a' q1 q2 => r a' b (by omega) (by omega) (by omega)) (fun a' k' q1 q2 => r a' k' (by omega) (by omega) (by omega)) y.1, by omega⟩
theorem cuO.x {f : Int} (c : cuO s f h) {c0 : Nat} (hc : (hi h 226 45).toInt = c0) (x : xR c0 h h') : cuO s f h' := by
  obtain ⟨⟨x1, x2⟩, x3, -, c', x7, x8, -⟩ := x
  have r (a k : Nat) (h1 : a ≠ 226) (h2 : a ≠ 259) (h3 : ¬ ((a = 257 ∨ a = 258) ∧ c0 ≤ k ∧ k < 420 * (c0 / 420) + 420)) : hi h' a k = hi h a k := x1 a k (eKn h1 h2 h3)
  unfold cuO
  rw [x1 226 39 rfl, x7]
  refine ⟨c.1, c.2.1, fun b b1 b2 => ?_⟩
  have y := c.2.2 b b1 b2
  rw [r 256 b (by decide) (by decide) (by omega)]
  exact ⟨ob_cx (fun a' q1 q2 => r a' b (by omega) (by omega) (by omega)) (fun a' k' q1 q2 => r a' k' (by omega) (by omega) (by omega)) y.1, by omega⟩
end LL
end
section
/-! READING: a term, a law -/
section LT
variable {s : Nat} {hC : Hp}
/-- behind an expression that is asked for where there is no fault yet -/
theorem sr_ex {n : Nat} {h : Hp} (hn : 3000 ≤ n) (hs : s ≤ 1) (j : jL s hC h) (fz : (hi h 226 13).toInt = 0) : Ok (F_X12_expression n h) (fun q => jL s hC q ∧ ∃ c0 : Nat, (hi h 226 45).toInt = c0 ∧ xR c0 h q) := by
  have a := j.1.2.2.2.2.1
  have g := j.2 fz
  have g3 := g.2.2.1
  have t := j.1.2.2.1.1
  have hc : (hi h 226 45).toInt = ((hi h 226 45).toInt.toNat : Int) := by omega
  exact (sr_expr hn j.1.2.2.1 fz g.1 hc ⟨by omega, by omega⟩).mono (fun q hq => ⟨j.x hs fz hc hq, _, hc, hq⟩)
/-- the branch's row is whole: one branch more -/
theorem jL.br {h : Hp} (hs : s ≤ 1) (j : jL s hC h) (b3 : (hi h 226 39).toInt ≤ 130 * s + 103) {k : Nat} (hk : (k : Int) = (hi h 226 39).toInt) (v : Int32) : jL s hC (wrI (wrI h 256 k v) 226 39 (hi h 226 39 + 1)) ∧ (∀ f, cuO s f h → (f ≤ (hi h 226 39).toInt) → obO s (wrI (wrI h 256 k v) 226 39 (hi h 226 39 + 1)) k → v.toInt ≤ (hi h 226 45).toInt → cuO s f (wrI (wrI h 256 k v) 226 39 (hi h 226 39 + 1))) := by
  have f1 := lit_1
  have b8 := j.1.2.2.2.2.2
  have a1 := adT (hi h 226 39) 1 (by omega) (by omega)
  have j1 := j.wb hs (v := v) (a := 256) (by decide) (by decide) hk
  have cw (f : Int) (c : cuO s f h) := c.wb (v := v) (a := 256) (by decide) (by decide) hk
  generalize eg : wrI h 256 k v = g at j1 cw
  have g39 : hi g 226 39 = hi h 226 39 := hiA eg 226 39 (by decide)
  have g45 : hi g 226 45 = hi h 226 45 := hiA eg 226 45 (by decide)
  have g256 : hi g 256 k = v := hiE eg
  have r (a z : Nat) (h1 : ¬ (a = 226 ∧ z = 39)) : hi (wrI g 226 39 (hi h 226 39 + 1)) a z = hi g a z := by rw [hi_wrI, if_neg h1]
  have r39 : hi (wrI g 226 39 (hi h 226 39 + 1)) 226 39 = hi h 226 39 + 1 := by rw [hi_wrI, if_pos ⟨rfl, rfl⟩]
  have r2 (z : Nat) (h1 : z ≠ 39) := r 226 z (by omega)
  refine ⟨?_, fun f c fl o v1 => ?_⟩
  · obtain ⟨⟨⟨b1, b2⟩, ⟨b3, b4⟩, b5, b6, b7, b8⟩, gg⟩ := j1
    refine ⟨⟨⟨fun a z q => ?_, fun a z q => b2 a z q⟩, ⟨by rw [r2 2 (by decide)]; exact b3, by rw [r2 19 (by decide)]; exact b4⟩, tI_w b5 (by decide) (by decide) (by decide), ?_, by rw [r2 45 (by decide), r2 11 (by decide)]; exact b7, by rw [r39]; omega⟩, fun z => ?_⟩
    · rw [r a z (by unfold frB at q; omega)]
      exact b1 a z q
    · unfold cnB
      rw [r 237 s (by omega), r 242 s (by omega), r 226 20 (by omega), r 245 s (by omega)]
      exact b6
    · rw [r2 13 (by decide)] at z
      obtain ⟨y1, y2, y3, y5, y6⟩ := gg z
      exact ⟨by rw [r2 12 (by decide)]; exact y1, by rw [r2 20 (by decide), r 242 s (by omega)]; exact y2, by rw [r2 45 (by decide), r2 11 (by decide)]; exact y3, fun w => (y5 (by rw [r2 15 (by decide)] at w; exact w)).cg (fun a z h1 h2 => r a z (by omega)), y6.cg (fun a z h1 h2 => r a z (by omega)) (by rw [r39, g39]; omega) (by rw [r2 45 (by decide)]; omega)⟩
  · have c' := cw f c
    unfold cuO at c' ⊢
    rw [r39, r2 45 (by decide)]
    rw [g39, g45] at c'
    refine ⟨c'.1, by omega, fun b b1 b2 => ?_⟩
    rw [r 256 b (by omega)]
    by_cases z : b = k
    · subst z
      rw [g256, g45]
      exact ⟨o, v1⟩
    · have y := c'.2.2 b b1 (by omega)
      rw [g45]
      exact ⟨ob_cx (fun a' q1 q2 => r a' b (by omega)) (fun a' k' q1 _ => r a' k' (by omega)) y.1, y.2⟩
/-- what a term leaves -/
def tR (s : Nat) (hC h q : Hp) : Prop := jL s hC q ∧ (hi q 226 39).toInt = (hi h 226 39).toInt + 1 ∧ (hi h 226 11).toInt ≤ (hi q 226 11).toInt ∧ ((hi q 226 13).toInt = 0 → (hi h 226 13).toInt = 0 ∧ (hi h 226 11).toInt + 1 ≤ (hi q 226 11).toInt ∧ ∀ f, cuO s f h → (∀ k : Nat, (k : Int) = (hi h 226 39).toInt → (vp_nar .boolean (hi h 252 k)).toInt ≠ 0 → oiO (hi h 257) (hi h 258) (hi h 253 k) (hi h 254 k) ∧ oiO (hi h 257) (hi h 258) (hi h 254 k) (hi h 226 45) ∧ 420 * (s : Int) ≤ (hi h 253 k).toInt) → cuO s f q)
set_option maxHeartbeats 4000000 in
theorem sr_term {n : Nat} {h : Hp} (hn : 3000 ≤ n) (hs : s ≤ 1) (j : jL s hC h) (b3 : (hi h 226 39).toInt ≤ 130 * s + 103) : Ok (F_X12_term n h) (fun q => tR s hC h q) := by
  have b8 := j.1.2.2.2.2.2
  have a45 := j.1.2.2.2.2.1
  have f0 := lit_0
  have f1 := lit_1
  have a1 := adT (hi h 226 39) 1 (by omega) (by omega)
  have nk := ncT (show 0 ≤ (hi h 226 39).toInt by omega)
  unfold F_X12_term
  have im : ixOK (hi h 226 39) 260 = true := ixT (by omega) (by omega)
  refine Ok.pos im ?_
  generalize ek : Int32.toNatClampNeg (hi h 226 39) = k
  rw [ek] at nk
  have j1 := j.wb hs (v := hi h 226 45) (a := 255) (by decide) (by decide) nk
  have cw (f : Int) (c : cuO s f h) := c.wb (v := hi h 226 45) (a := 255) (by decide) (by decide) nk
  generalize eg : wrI h 255 k (hi h 226 45) = g at j1 cw
  have g2 (z : Nat) : hi g 226 z = hi h 226 z := hiA eg 226 z (by decide)
  have ga (a z : Nat) (ha : a ≠ 255) : hi g a z = hi h a z := hiA eg a z ha
  have g255 : hi g 255 k = hi h 226 45 := hiE eg
  rw [g2]
  refine Ok.eq (fun c1 => ?_) (fun c1 => ?_)
  · have fz : (hi g 226 13).toInt = 0 := by rw [g2]; omega
    refine Ok.bind (sr_ex hn hs j1 fz) (fun q hq => ?_)
    obtain ⟨jq, c0, hc, x⟩ := hq
    rw [g2] at hc
    have jx := x
    obtain ⟨⟨x1, x2⟩, x3, ⟨x4, x5, x6⟩, c, x7, x8, x9, x10⟩ := x
    have q39 : hi q 226 39 = hi h 226 39 := (x1 226 39 rfl).trans (g2 39)
    rw [q39, ek]
    refine Ok.pos im ?_
    have z0 (z : Int32) : hi (wrI q 256 k z) 226 39 = hi h 226 39 := by rw [hi_wrI, if_neg (by omega)]; exact q39
    rw [z0]
    have jb := jq.br hs (k := k) (by rw [q39]; exact b3) (by rw [q39]; exact nk) (hi q 226 45)
    rw [q39] at jb
    generalize eg3 : wrI (wrI q 256 k (hi q 226 45)) 226 39 (hi h 226 39 + 1) = r at jb
    have rr (a z : Nat) (h1 : ¬ (a = 226 ∧ z = 39)) (h2 : ¬ (a = 256 ∧ z = k)) : hi r a z = hi q a z := by rw [← eg3, hi_wrI, if_neg h1, hi_wrI, if_neg h2]
    have r39 : hi r 226 39 = hi h 226 39 + 1 := by rw [← eg3, hi_wrI, if_pos ⟨rfl, rfl⟩]
    have r256 : hi r 256 k = hi q 226 45 := by rw [← eg3, hi_wrI, if_neg (by omega), hi_wrI, if_pos ⟨rfl, rfl⟩]
    have r13 := rr 226 13 (by decide) (by omega)
    have r11 := rr 226 11 (by decide) (by omega)
    rw [g2] at x6
    refine Ok.ret ⟨jb.1, by rw [r39]; omega, by rw [r11]; exact x6, fun z => ?_⟩
    rw [r13] at z
    obtain ⟨y1, y2, y3, y4⟩ := x10 z
    rw [g2] at y4
    refine ⟨by omega, by rw [r11]; exact y4, fun f cf ht => ?_⟩
    have cx := (cw f cf).x (by rw [g2]; exact hc) jx
    have qa (a z : Nat) (h1 : a ≠ 226) (h2 : a ≠ 259) (h3 : ¬ ((a = 257 ∨ a = 258) ∧ c0 ≤ z ∧ z < 420 * (c0 / 420) + 420)) (h4 : a ≠ 255) : hi q a z = hi h a z := (x1 a z (eKn h1 h2 h3)).trans (ga a z h4)
    have q255 : hi q 255 k = hi h 226 45 := (x1 255 k (eKn (by decide) (by decide) (by omega))).trans g255
    refine jb.2 f cx cf.2.1 ?_ (Int.le_refl _)
    have w7 : hi r 257 = hi q 257 := funext fun z => rr 257 z (by omega) (by omega)
    have w8 : hi r 258 = hi q 258 := funext fun z => rr 258 z (by omega) (by omega)
    unfold obO
    rw [w7, w8, r256, rr 252 k (by omega) (by omega), rr 253 k (by omega) (by omega), rr 254 k (by omega) (by omega), rr 255 k (by omega) (by omega), q255, qa 252 k (by decide) (by decide) (by omega) (by decide), qa 253 k (by decide) (by decide) (by omega) (by decide), qa 254 k (by decide) (by decide) (by omega) (by decide)]
    have n45 := ncT (show 0 ≤ (hi h 226 45).toInt by omega)
    have n46 := ncT (show 0 ≤ (hi q 226 45).toInt by omega)
    have tt := x3.1
    have gl := (j.2 (by omega)).2.2.1
    rw [g2] at x9 y3
    refine ⟨fun z2 => ?_, ⟨by omega, by omega, ?_⟩, by omega, fun z2 => (ht k nk z2).2.2, by omega⟩
    · have h3 := ht k nk z2
      have l2 := oi_le h3.2.1
      exact ⟨oi_cg (hi h 226 45).toInt l2 (fun i il => qa 257 i (by decide) (by decide) (by omega) (by decide)) (fun i il => qa 258 i (by decide) (by decide) (by omega) (by decide)) h3.1, oi_cg (hi h 226 45).toInt (Int.le_refl _) (fun i il => qa 257 i (by decide) (by decide) (by omega) (by decide)) (fun i il => qa 258 i (by decide) (by decide) (by omega) (by decide)) h3.2.1⟩
    · rw [show Int32.toNatClampNeg (hi h 226 45) = c0 by omega, show Int32.toNatClampNeg (hi q 226 45) = c by omega]
      exact y2
  · rw [g2 39, g2 45, ek]
    refine Ok.pos im ?_
    have z0 (z : Int32) : hi (wrI g 256 k z) 226 39 = hi h 226 39 := by rw [hi_wrI, if_neg (by omega)]; exact g2 39
    rw [z0]
    have jb := j1.br hs (k := k) (by rw [g2]; exact b3) (by rw [g2]; exact nk) (hi h 226 45)
    rw [g2 39] at jb
    refine Ok.ret ⟨jb.1, ?_, ?_, fun z => ?_⟩
    · rw [hi_wrI, if_pos ⟨rfl, rfl⟩]; omega
    · rw [hi_wrI, if_neg (by decide), hi_wrI, if_neg (by omega), g2]
      exact Int.le_refl _
    · rw [hi_wrI, if_neg (by decide), hi_wrI, if_neg (by omega), g2] at z
      exact absurd (z.trans f0.symm) c1
end LT
end
section
/-! READING: a law -/
theorem vpb0 : (vp_nar .boolean (0 : Int32)) = 0 := by decide
section LW
variable {s : Nat} {hC : Hp}
/-- an expression, fault or not -/
theorem sr_exx {n : Nat} {h : Hp} (hn : 3000 ≤ n) (hs : s ≤ 1) (j : jL s hC h) : Ok (F_X12_expression n h) (fun q => jL s hC q ∧ hi q 226 39 = hi h 226 39 ∧ (hi h 226 11).toInt ≤ (hi q 226 11).toInt ∧ ((hi q 226 13).toInt = 0 → (hi h 226 13).toInt = 0) ∧ ((hi h 226 13).toInt = 0 → ∃ c0 : Nat, (hi h 226 45).toInt = c0 ∧ xR c0 h q)) := by
  by_cases fz : (hi h 226 13).toInt = 0
  · refine (sr_ex hn hs j fz).mono (fun q hq => ?_)
    obtain ⟨jq, c0, hc, x⟩ := hq
    exact ⟨jq, x.1.1 226 39 rfl, x.2.2.1.2.2, fun _ => fz, fun _ => ⟨c0, hc, x⟩⟩
  · obtain ⟨n, rfl⟩ : ∃ m, n = m + 1 := ⟨n - 1, by omega⟩
    unfold F_X12_expression
    have r (k : Nat) (hk : k ≠ 49) : hi (wrI h 226 49 0) 226 k = hi h 226 k := by rw [hi_wrI, if_neg (by omega)]
    rw [u_X12_expression]
    refine Ok.pos rfl ?_
    refine Ok.neg (by decide) ?_
    refine Ok.eq (fun c1 => ?_) (fun _ => ?_)
    · rw [r 13 (by decide), lit_0] at c1
      exact absurd c1 fz
    · refine Ok.ret ⟨?_, r 39 (by decide), by rw [r 11 (by decide)]; exact Int.le_refl _, fun q => by rw [r 13 (by decide)] at q; exact q, fun q => absurd q fz⟩
      obtain ⟨⟨⟨b1, b2⟩, ⟨b3, b4⟩, b5, b6, b7, b8⟩, g⟩ := j
      have ra (a k : Nat) (hk : ¬ (a = 226 ∧ k = 49)) : hi (wrI h 226 49 0) a k = hi h a k := by rw [hi_wrI, if_neg hk]
      refine ⟨⟨⟨fun a k q => ?_, fun a k q => b2 a k q⟩, ⟨by rw [r 2 (by decide)]; exact b3, by rw [r 19 (by decide)]; exact b4⟩, tI_w b5 (by decide) (by decide) (by decide), ?_, by rw [r 45 (by decide), r 11 (by decide)]; exact b7, by rw [r 39 (by decide)]; exact b8⟩, fun z => ?_⟩
      · rw [ra a k (by unfold frB at q; omega)]
        exact b1 a k q
      · unfold cnB
        rw [ra 237 s (by omega), ra 242 s (by omega), ra 226 20 (by omega), ra 245 s (by omega)]
        exact b6
      · rw [r 13 (by decide)] at z
        exact absurd z fz
/-- the law is laid down -/
theorem law_set {q : Hp} (hs : s ≤ 1) (j : jL s hC q) (fz : (hi q 226 13).toInt = 0) {i : Nat} (i0 : 4 * s ≤ i) (i1 : i < 4 * s + 4) {l2 : Int32} (c : cuO s l2.toInt q) (ac : 4 * ((hi q 226 39).toInt - 130 * s) ≤ (hi q 226 11).toInt) : jR s hC (wrI (wrI q 250 i l2) 251 i (hi q 226 39)) := by
  obtain ⟨⟨⟨b1, b2⟩, ⟨b3, b4⟩, b5, b6, b7, b8⟩, g⟩ := j
  obtain ⟨g1, g2, g3, g5, g6⟩ := g fz
  generalize eq : wrI (wrI q 250 i l2) 251 i (hi q 226 39) = r
  have rr (a z : Nat) (h1 : ¬ (a = 250 ∧ z = i)) (h2 : ¬ (a = 251 ∧ z = i)) : hi r a z = hi q a z := by rw [← eq, hi_wrI, if_neg h2, hi_wrI, if_neg h1]
  have r0 : hi r 250 i = l2 := by rw [← eq, hi_wrI, if_neg (by omega), hi_wrI, if_pos ⟨rfl, rfl⟩]
  have r1 : hi r 251 i = hi q 226 39 := by rw [← eq, hi_wrI, if_pos ⟨rfl, rfl⟩]
  have r2 (z : Nat) : hi r 226 z = hi q 226 z := rr 226 z (by omega) (by omega)
  have ro (b : Nat) (o : obO s q b) : obO s r b := o.cg (fun a k h1 h2 => rr a k (by omega) (by omega))
  refine ⟨⟨⟨fun a z w => ?_, fun a z w => ?_⟩, ⟨by rw [r2]; exact b3, by rw [r2]; exact b4⟩, ?_, ?_, by rw [r2, r2]; exact b7, by rw [r2]; exact b8⟩, fun z => ⟨by rw [r2]; exact g1, by rw [r2, rr 242 s (by omega) (by omega)]; exact g2, by rw [r2, r2]; exact g3, by rw [r2, r2]; exact ac, fun w => (g5 (by rw [r2] at w; exact w)).cg (fun a k h1 h2 => rr a k (by omega) (by omega)), fun i' h1 h2 => ?_⟩⟩
  · rw [rr a z (by unfold frB at w; omega) (by unfold frB at w; omega)]
    exact b1 a z w
  · rw [← eq]
    exact b2 a z w
  · show (0 ≤ (hi r 226 11).toInt ∧ (hi r 226 11).toInt ≤ 400) ∧ 0 ≤ (hi r 226 13).toInt ∧ 0 ≤ (hi r 226 15).toInt
    rw [r2, r2, r2]
    exact b5
  · unfold cnB
    rw [rr 237 s (by omega) (by omega), rr 242 s (by omega) (by omega), r2, rr 245 s (by omega) (by omega)]
    exact b6
  · rw [r2, r2]
    by_cases e : i' = i
    · subst e
      rw [r0, r1]
      refine Or.inr ⟨c.1, Int.le_refl _, fun b h3 h4 => ?_⟩
      rw [rr 256 b (by omega) (by omega)]
      exact ⟨ro b (c.2.2 b h3 h4).1, (c.2.2 b h3 h4).2⟩
    · rw [rr 250 i' (by omega) (by omega), rr 251 i' (by omega) (by omega)]
      rcases g6 i' h1 h2 with w | ⟨w1, w2, w3⟩
      · exact Or.inl w
      · refine Or.inr ⟨w1, w2, fun b h3 h4 => ?_⟩
        rw [rr 256 b (by omega) (by omega)]
        exact ⟨ro b (w3 b h3 h4).1, (w3 b h3 h4).2⟩
theorem jL.side {h : Hp} (j : jL s hC h) (hs : s ≤ 1) : ixOK (hi h 226 19) 2 = true ∧ Int32.toNatClampNeg (hi h 226 19) = s := by
  have a := j.1.2.1.2
  have b := ncT (show 0 ≤ (hi h 226 19).toInt by omega)
  exact ⟨ixT (by omega) (by omega), by omega⟩
/-- the last branch -/
theorem law_end {n : Nat} (hn : 3000 ≤ n) (hs : s ≤ 1) {h : Hp} {l1 l2 : Int32} (j : jL s hC h) (b1 : (hi h 226 39).toInt ≤ 130 * s + 101) (k0 : 0 ≤ l1.toInt) (k1 : l1.toInt < 4) (cu : (hi h 226 13).toInt = 0 → 4 * ((hi h 226 39).toInt - 130 * s) + 2 ≤ (hi h 226 11).toInt ∧ cuO s l2.toInt h) {T0 : Int} {Z0 : Prop} (t0 : T0 ≤ (hi h 226 11).toInt) (z0 : (hi h 226 13).toInt = 0 → Z0) : Ok (if ixOK (hi h 226 39) 260 = true then ((F_X12_term n (wrI h 252 (Int32.toNatClampNeg (hi h 226 39)) 0)).bind (fun q3 => ((F_X12_must n q3 4).bind (fun q5 => (if ((hi q5 226 13) : Int32) ≤ 0 then (if ixOK ((4 * (hi q5 226 19)) + l1) 8 = true then (if ixOK ((4 * (hi (wrI q5 250 (Int32.toNatClampNeg ((4 * (hi q5 226 19)) + l1)) l2) 226 19)) + l1) 8 = true then some (wrI (wrI q5 250 (Int32.toNatClampNeg ((4 * (hi q5 226 19)) + l1)) l2) 251 (Int32.toNatClampNeg ((4 * (hi (wrI q5 250 (Int32.toNatClampNeg ((4 * (hi q5 226 19)) + l1)) l2) 226 19)) + l1)) (hi (wrI q5 250 (Int32.toNatClampNeg ((4 * (hi q5 226 19)) + l1)) l2) 226 39)) else none) else none) else some q5))))) else none) (fun q => jR s hC q ∧ T0 ≤ (hi q 226 11).toInt ∧ ((hi q 226 13).toInt = 0 → Z0)) := by
  have b8 := j.1.2.2.2.2.2
  have nk := ncT (show 0 ≤ (hi h 226 39).toInt by omega)
  have f0 := lit_0
  have im : ixOK (hi h 226 39) 260 = true := ixT (by omega) (by omega)
  refine Ok.pos im ?_
  generalize ek : Int32.toNatClampNeg (hi h 226 39) = k
  rw [ek] at nk
  have j1 := j.wb hs (v := 0) (a := 252) (by decide) (by decide) nk
  have cw (c : cuO s l2.toInt h) := c.wb (v := 0) (a := 252) (by decide) (by decide) nk
  generalize eg : wrI h 252 k 0 = g at j1 cw
  have g2 (z : Nat) : hi g 226 z = hi h 226 z := hiA eg 226 z (by decide)
  refine Ok.bind (sr_term hn hs j1 (by rw [g2]; omega)) (fun q hq => ?_)
  obtain ⟨jq, q39, qt, qf⟩ := hq
  rw [g2] at q39 qt qf
  rw [g2] at qf
  refine Ok.bind (sr_must jq.1.2.2.1) (fun r hr => ?_)
  have jr := jq.p hr.1
  have m1 := hr.1.2.2.2.1
  have tr := jr.1.2.2.1
  have r39 : hi r 226 39 = hi q 226 39 := hr.1.1 226 39 (by decide)
  refine Ok.le (fun c1 => ?_) (fun c1 => ?_)
  · have fz : (hi r 226 13).toInt = 0 := by have := tr.2.1; omega
    have y1 := hr.2 fz
    have y2 := qf y1.1
    have y3 := cu y2.1
    have c2 : cuO s l2.toInt q := y2.2.2 _ (cw y3.2) (fun k' hk' h3 => by
      rw [g2 39] at hk'
      rw [show k' = k by omega, hiE eg, vpb0] at h3
      exact absurd lit_0 h3)
    have j19 := jr.1.2.1.2
    have f4 := lit_4
    have a1 := mlT 4 (hi r 226 19) 4 lit_4 (by omega) (by omega)
    have a2 := adT (4 * hi r 226 19) l1 (by omega) (by omega)
    have ni := ncT (show 0 ≤ (4 * hi r 226 19 + l1 : Int32).toInt by omega)
    have im2 : ixOK (4 * hi r 226 19 + l1) 8 = true := ixT (by omega) (by omega)
    refine Ok.pos im2 ?_
    have e19 (i : Nat) (v : Int32) : hi (wrI r 250 i v) 226 19 = hi r 226 19 := by rw [hi_wrI, if_neg (by omega)]
    have e39 (i : Nat) (v : Int32) : hi (wrI r 250 i v) 226 39 = hi r 226 39 := by rw [hi_wrI, if_neg (by omega)]
    rw [e19, e39]
    refine Ok.pos im2 ?_
    refine Ok.ret ⟨law_set hs jr fz (by omega) (by omega) (c2.p hr.1) (by rw [r39]; omega), ?_, fun _ => z0 y2.1⟩
    rw [hi_wrI, if_neg (by omega), hi_wrI, if_neg (by omega)]
    omega
  · refine Ok.ret ⟨⟨jr.1, fun z => by omega⟩, by omega, fun z => by omega⟩
set_option maxHeartbeats 8000000 in
theorem sr_lawL (hs : s ≤ 1) {l1 l2 : Int32} (k0 : 0 ≤ l1.toInt) (k1 : l1.toInt < 4) {T0 : Int} {Z0 : Prop} : ∀ n : Nat, ∀ (h : Hp) (l3 : Int32), jL s hC h → (hi h 226 39).toInt ≤ 130 * s + 100 → ((hi h 226 13).toInt = 0 → 4 * ((hi h 226 39).toInt - 130 * s) + 2 ≤ (hi h 226 11).toInt ∧ cuO s l2.toInt h) → T0 ≤ (hi h 226 11).toInt → ((hi h 226 13).toInt = 0 → Z0) → 0 ≤ l3.toInt → l3.toInt ≤ 4 → (3000 : Int) + (6 - l3.toInt) < n → Ok (W_X12_tellLaw n 12 h l1 l2 l3) (fun q => jR s hC q ∧ T0 ≤ (hi q 226 11).toInt ∧ ((hi q 226 13).toInt = 0 → Z0)) := by
  intro n
  induction n with
  | zero => intro h l3 j a b c d e f g; exfalso; omega
  | succ n ih =>
    intro h l3 j b1 cu t0 z0 l0 l4 hn
    have f0 := lit_0
    have f1 := lit_1
    have f4 := lit_4
    have t := j.1.2.2.1
    have t1 := t.1
    have b8 := j.1.2.2.2.2.2
    have a45 := j.1.2.2.2.2.1
    rw [u_X12_tellLaw]
    refine Ok.pos rfl ?_
    refine Ok.eq (fun c1 => ?_) (fun c1 => law_end (by omega) hs j (by omega) k0 k1 cu t0 z0)
    have fz : (hi h 226 13).toInt = 0 := by omega
    obtain ⟨cu1, cu2⟩ := cu fz
    refine Ok.bind (sr_is t) (fun q10 hq10 => ?_)
    rw [hq10.1]
    refine Ok.ite (fun _ => law_end (by omega) hs j (by omega) k0 k1 cu t0 z0) (fun _ => ?_)
    refine Ok.eq (fun c3 => ?_) (fun c3 => ?_)
    · refine Ok.bind (sr_fail t (by decide)) (fun q hq => ?_)
      have jq := j.p hq.1
      have m := hq.1.2.2.2.1
      refine Ok.le (fun c4 => ?_) (fun _ => Ok.ret ⟨⟨jq.1, fun z => absurd z hq.2.1⟩, by omega, fun z => absurd z hq.2.1⟩)
      have := jq.1.2.2.1.2.1
      exact absurd (show (hi q 226 13).toInt = 0 by omega) hq.2.1
    refine Ok.le (fun _ => ?_) (fun c4 => by omega)
    have al := adT l3 1 (by omega) (by omega)
    have L0 : 0 ≤ (l3 + 1).toInt := by omega
    have L4 : (l3 + 1).toInt ≤ 4 := by omega
    have L5 : (3000 : Int) + (6 - (l3 + 1).toInt) < n := by omega
    refine Ok.bind (sr_goesOn t) (fun q hq => ?_)
    have jq := j.p hq.1
    have cq := cu2.p hq.1
    have m1 := hq.1.2.2.2.1
    have q39 : hi q 226 39 = hi h 226 39 := hq.1.1 226 39 (by decide)
    have nk := ncT (show 0 ≤ (hi h 226 39).toInt by omega)
    have im : ixOK (hi h 226 39) 260 = true := ixT (by omega) (by omega)
    rw [q39]
    refine Ok.pos im ?_
    generalize ek : Int32.toNatClampNeg (hi h 226 39) = k
    rw [ek] at nk
    have nkq : (k : Int) = (hi q 226 39).toInt := by rw [q39]; exact nk
    have j2 := jq.wb hs (v := 1) (a := 252) (by decide) (by decide) nkq
    have c2 := cq.wb (v := 1) (a := 252) (by decide) (by decide) nkq
    generalize eg2 : wrI q 252 k 1 = g2 at j2 c2
    have g2s (z : Nat) : hi g2 226 z = hi q 226 z := hiA eg2 226 z (by decide)
    rw [g2s 39, q39, ek]
    refine Ok.pos im ?_
    rw [g2s 45]
    have j3 := j2.wb hs (v := hi q 226 45) (a := 253) (by decide) (by decide) (by rw [g2s]; exact nkq)
    have c3' := c2.wb (v := hi q 226 45) (a := 253) (by decide) (by decide) (by rw [g2s]; exact nkq)
    generalize eg3 : wrI g2 253 k (hi q 226 45) = g3 at j3 c3'
    have g3s (z : Nat) : hi g3 226 z = hi q 226 z := (hiA eg3 226 z (by decide)).trans (g2s z)
    refine Ok.bind (sr_exx (by omega) hs j3) (fun r hr => ?_)
    obtain ⟨jr, r39, rt, rf, rx⟩ := hr
    rw [g3s] at r39 rt rf rx
    rw [g3s] at rx
    refine Ok.bind (sr_must jr.1.2.2.1) (fun u hu => ?_)
    have ju := jr.p hu.1
    have m2 := hu.1.2.2.2.1
    have u39 : hi u 226 39 = hi h 226 39 := (hu.1.1 226 39 (by decide)).trans (r39.trans q39)
    rw [u39, ek]
    refine Ok.pos im ?_
    have nku : (k : Int) = (hi u 226 39).toInt := by rw [u39]; exact nk
    have j4 := ju.wb hs (v := hi u 226 45) (a := 254) (by decide) (by decide) nku
    have cw4 (f : Int) (c : cuO s f u) := c.wb (v := hi u 226 45) (a := 254) (by decide) (by decide) nku
    generalize eg4 : wrI u 254 k (hi u 226 45) = g4 at j4 cw4
    have g4s (z : Nat) : hi g4 226 z = hi u 226 z := hiA eg4 226 z (by decide)
    have tl (w : Hp) (jw : jL s hC w) (w39 : hi w 226 39 = hi h 226 39) (wt : (hi u 226 11).toInt ≤ (hi w 226 11).toInt) (wf : (hi w 226 13).toInt = 0 → (hi u 226 13).toInt = 0 ∧ ∃ c1 : Nat, (hi u 226 45).toInt = c1 ∧ xR c1 g4 w) : Ok ((F_X12_must n w 31).bind (fun q41 => ((F_X12_term n q41).bind (fun q43 => ((F_X12_must n q43 32).bind (fun q45 => W_X12_tellLaw n 12 q45 l1 l2 (l3 + 1))))))) (fun q => jR s hC q ∧ T0 ≤ (hi q 226 11).toInt ∧ ((hi q 226 13).toInt = 0 → Z0)) := by
      refine Ok.bind (sr_must jw.1.2.2.1) (fun x hx => ?_)
      have jx := jw.p hx.1
      have m3 := hx.1.2.2.2.1
      have x39 : hi x 226 39 = hi h 226 39 := (hx.1.1 226 39 (by decide)).trans w39
      refine Ok.bind (sr_term (by omega) hs jx (by rw [x39]; omega)) (fun y hy => ?_)
      obtain ⟨jy, y39, yt, yf⟩ := hy
      rw [x39] at y39
      refine Ok.bind (sr_must jy.1.2.2.1) (fun z hz => ?_)
      have jz := jy.p hz.1
      have m4 := hz.1.2.2.2.1
      have z39 : hi z 226 39 = hi y 226 39 := hz.1.1 226 39 (by decide)
      have chain (zz : (hi z 226 13).toInt = 0) : (hi y 226 13).toInt = 0 ∧ (hi x 226 13).toInt = 0 ∧ (hi w 226 13).toInt = 0 ∧ (hi u 226 13).toInt = 0 ∧ (hi r 226 13).toInt = 0 ∧ (hi q 226 13).toInt = 0 := by
        have e1 := (hz.2 zz).1
        have e2 := (yf e1).1
        have e3 := (hx.2 e2).1
        have e4 := (wf e3).1
        have e5 := (hu.2 e4).1
        exact ⟨e1, e2, e3, e4, e5, rf e5⟩
      have T9 : T0 ≤ (hi z 226 11).toInt := by clear wf rx chain; omega
      have B9 : (hi y 226 39).toInt ≤ 130 * s + 100 := by clear wf rx chain; omega
      refine ih z (l3 + 1) jz (by rw [z39]; exact B9) (fun zz => ?_) T9 (fun _ => z0 fz) L0 L4 L5
      obtain ⟨e1, e2, e3, e4, e5, e6⟩ := chain zz
      have p1 := (hz.2 zz).2
      have p2 := yf e1
      have p3 := (hx.2 e2).2
      have p5 := (hu.2 e4).2
      have p6 := (hq.2 e6).2
      refine ⟨by rw [z39]; clear wf rx chain; omega, ?_⟩
      obtain ⟨c1, hc1, xw⟩ := (wf e3).2
      obtain ⟨cA, hcA, xr⟩ := rx e6
      clear wf rx chain
      have cr := c3'.x (by rw [g3s]; exact hcA) xr
      have cu4 := cw4 _ (cr.p hu.1)
      have cww := cu4.x (by rw [g4s]; exact hc1) xw
      refine (p2.2.2 _ (cww.p hx.1) (fun k' hk' h3 => ?_)).p hz.1
      rw [x39] at hk'
      have ekk : k' = k := by omega
      subst ekk
      have tr := jr.1.2.2.1.1
      have bb := jq.1.2.2.2.2.1
      -- cells of the branch's row
      have xa (a i : Nat) (h1 : a ≠ 226) : hi x a i = hi w a i := hx.1.1 a i (pK226 h1)
      have wa (a i : Nat) (h1 : a ≠ 226) (h2 : a ≠ 259) (h3 : ¬ ((a = 257 ∨ a = 258) ∧ c1 ≤ i ∧ i < 420 * (c1 / 420) + 420)) : hi w a i = hi g4 a i := xw.1.1 a i (eKn h1 h2 h3)
      have ua (a i : Nat) (h1 : a ≠ 226) : hi u a i = hi r a i := hu.1.1 a i (pK226 h1)
      have ra (a i : Nat) (h1 : a ≠ 226) (h2 : a ≠ 259) (h3 : ¬ ((a = 257 ∨ a = 258) ∧ cA ≤ i ∧ i < 420 * (cA / 420) + 420)) : hi r a i = hi g3 a i := xr.1.1 a i (eKn h1 h2 h3)
      have v253 : hi x 253 k' = hi q 226 45 := by
        rw [xa 253 k' (by decide), wa 253 k' (by decide) (by decide) (by omega), hiA eg4 253 k' (by decide), ua 253 k' (by decide), ra 253 k' (by decide) (by decide) (by omega)]
        exact hiE eg3
      have v254 : hi x 254 k' = hi u 226 45 := by
        rw [xa 254 k' (by decide), wa 254 k' (by decide) (by decide) (by omega)]
        exact hiE eg4
      have x45 : hi x 226 45 = hi w 226 45 := hx.1.1 226 45 (by decide)
      have u45 : hi u 226 45 = hi r 226 45 := hu.1.1 226 45 (by decide)
      obtain ⟨-, -, -, c2', d7, d8, d9, d10⟩ := xw
      obtain ⟨-, -, -, cB, b7, b8', b9, b10⟩ := xr
      have o2 := (d10 e3).2.1
      have o1 := (b10 e5).2.1
      rw [v253, v254, x45]
      have h7 : hi x 257 = hi w 257 := funext fun i => xa 257 i (by decide)
      have h8 : hi x 258 = hi w 258 := funext fun i => xa 258 i (by decide)
      rw [h7, h8]
      have nA := ncT (show 0 ≤ (hi q 226 45).toInt by omega)
      have nB := ncT (show 0 ≤ (hi u 226 45).toInt by omega)
      have nC := ncT (show 0 ≤ (hi w 226 45).toInt by omega)
      have bu : c1 = cB := by rw [u45] at hc1; omega
      subst bu
      refine ⟨⟨by omega, by omega, ?_⟩, ⟨by omega, by omega, ?_⟩, by omega⟩
      · rw [show Int32.toNatClampNeg (hi q 226 45) = cA by omega, show Int32.toNatClampNeg (hi u 226 45) = c1 by omega]
        refine oc_cg (fun i h1 h2 => ?_) (fun i h1 h2 => ?_) o1
        · rw [wa 257 i (by decide) (by decide) (by omega), hiA eg4 257 i (by decide), ua 257 i (by decide)]
        · rw [wa 258 i (by decide) (by decide) (by omega), hiA eg4 258 i (by decide), ua 258 i (by decide)]
      · rw [show Int32.toNatClampNeg (hi u 226 45) = c1 by omega, show Int32.toNatClampNeg (hi w 226 45) = c2' by omega]
        exact o2
    rw [g4s 13]
    refine Ok.eq (fun c5 => ?_) (fun c5 => ?_)
    · have fu : (hi g4 226 13).toInt = 0 := by rw [g4s]; omega
      refine Ok.bind (sr_ex (by omega) hs j4 fu) (fun w hw => ?_)
      obtain ⟨jw, c1, hc1, xw⟩ := hw
      rw [g4s] at hc1
      have wt := xw.2.2.1.2.2
      rw [g4s] at wt
      exact tl w jw ((xw.1.1 226 39 rfl).trans ((g4s 39).trans u39)) wt (fun _ => ⟨by rw [g4s] at fu; exact fu, c1, hc1, xw⟩)
    · exact tl g4 j4 ((g4s 39).trans u39) (by rw [g4s]; exact Int.le_refl _) (fun z => by rw [g4s] at z; omega)
theorem sr_law {n : Nat} {h : Hp} (hn : 4000 ≤ n) (hs : s ≤ 1) (j : jL s hC h) {x1 : Int32} (k0 : 0 ≤ x1.toInt) (k1 : x1.toInt < 4) (bb : (hi h 226 39).toInt ≤ 130 * s + 100) (ac : (hi h 226 13).toInt = 0 → 4 * ((hi h 226 39).toInt - 130 * s) + 1 ≤ (hi h 226 11).toInt) : Ok (F_X12_tellLaw n h x1) (fun q => jR s hC q ∧ (hi h 226 11).toInt ≤ (hi q 226 11).toInt ∧ ((hi q 226 13).toInt = 0 → (hi h 226 13).toInt = 0)) := by
  have f0 := lit_0
  have b8 := j.1.2.2.2.2.2
  unfold F_X12_tellLaw
  refine Ok.bind (sr_must j.1.2.2.1) (fun q hq => ?_)
  have m := hq.1.2.2.2.1
  have q39 : hi q 226 39 = hi h 226 39 := hq.1.1 226 39 (by decide)
  refine sr_lawL hs k0 k1 n q 0 (j.p hq.1) (by rw [q39]; exact bb) (fun z => ?_) m (fun z => (hq.2 z).1) (by omega) (by omega) (by omega)
  have y := hq.2 z
  have := ac y.1
  refine ⟨by rw [q39]; omega, ⟨by rw [q39]; omega, Int.le_refl _, fun b h1 h2 => by omega⟩⟩
end LW
end
section
/-! READING: one TELL -/
section ON
variable {s : Nat} {hC h : Hp}
theorem jR.w35 (j : jR s hC h) {a : Nat} {v : Int32} (ha : a = 235 ∨ a = 236) (ok : (hi h 226 13).toInt = 0 → (hi h 226 15).toInt = 0 → 2 ≤ v.toInt ∧ v.toInt ≤ 5) : jR s hC (wrI h a s v) := by
  refine j.w (by omega) (by omega) (by omega) (by unfold frB; omega) (j.1.2.2.2.1.w (by omega) (by omega) (by omega) (by omega)) (fun z1 z2 w => ?_)
  have r (a' k' : Nat) (q : ¬ (a' = a ∧ k' = s)) : hi (wrI h a s v) a' k' = hi h a' k' := by rw [hi_wrI, if_neg q]
  have e : hi (wrI h a s v) a s = v := by rw [hi_wrI, if_pos ⟨rfl, rfl⟩]
  obtain ⟨w1, w2, w3, w4, w5⟩ := w
  have ok := ok z1 z2
  unfold vlO
  rw [r 237 s (by omega), r 242 s (by omega), r 245 s (by omega)]
  refine ⟨?_, ?_, fun k' hk => ?_, fun k' hk => ?_, fun k' hk => ?_⟩
  · rcases ha with rfl | rfl
    · rw [e]; exact ok
    · rw [r 235 s (by omega)]; exact w1
  · rcases ha with rfl | rfl
    · rw [r 236 s (by omega)]; exact w2
    · rw [e]; exact ok
  · rw [r 238 _ (by omega), r 239 _ (by omega), r 240 _ (by omega), r 241 _ (by omega)]
    exact w3 k' hk
  · rw [r 243 _ (by omega), r 244 _ (by omega)]
    exact w4 k' hk
  · rw [r 246 _ (by omega), r 247 _ (by omega)]
    exact w5 k' hk
theorem jR.w48 (j : jR s hC h) {a : Nat} {v : Int32} (ha : a = 248 ∨ a = 249) : jR s hC (wrI h a s v) := by
  refine j.w (by omega) (by omega) (by omega) (by unfold frB; omega) (j.1.2.2.2.1.w (by omega) (by omega) (by omega) (by omega)) (fun z1 z2 w => ?_)
  exact w.cg (fun a' k h1 h2 => by rw [hi_wrI, if_neg (by omega)])
set_option maxRecDepth 100000 in
set_option maxHeartbeats 8000000 in
theorem sr_one {n : Nat} (hn : 5000 ≤ n) (hs : s ≤ 1) (j : jR s hC h) (fz : (hi h 226 13).toInt = 0) (kd : 0 ≤ (hi h 229 (Int32.toNatClampNeg (hi h 226 11))).toInt) : Ok (F_X12_tellOne n h) (fun q => jR s hC q ∧ ((hi q 226 13).toInt = 0 → (hi h 226 11).toInt + 1 ≤ (hi q 226 11).toInt)) := by
  have t := j.1.2.2.1
  have t1 := t.1
  have f0 := lit_0
  have cn := j.1.2.2.2.1
  have cn1 := cn.1
  have cn2 := cn.2.1
  have cn4 := cn.2.2.2
  have ac := (j.2 fz).2.2.2.1
  obtain ⟨i1, i2⟩ := j.side hs
  have im : ixOK (hi h 226 11) 403 = true := ixT (by omega) (by omega)
  have TL : Ok (if ixOK (hi h 226 11) 403 = true then (if (((hi h 229 (Int32.toNatClampNeg (hi h 226 11))) - 24) : Int32) < 0 then ((F_X12_fail n h 1).bind (fun q37 => (if ((hi q37 226 13) : Int32) ≤ 0 then ((F_X12_goesOn n q37).bind (fun q40 => ((F_X12_tellLaw n q40 ((hi h 229 (Int32.toNatClampNeg (hi h 226 11))) - 24)).bind (fun q42 => some q42)))) else some q37))) else (if ixOK (hi h 226 11) 403 = true then (if ((hi h 229 (Int32.toNatClampNeg (hi h 226 11))) : Int32) ≤ (27 : Int32) then (if ((hi h 226 13) : Int32) ≤ 0 then ((F_X12_goesOn n h).bind (fun q47 => ((F_X12_tellLaw n q47 ((hi h 229 (Int32.toNatClampNeg (hi h 226 11))) - 24)).bind (fun q49 => some q49)))) else some h) else ((F_X12_fail n h 1).bind (fun q51 => (if ((hi q51 226 13) : Int32) ≤ 0 then ((F_X12_goesOn n q51).bind (fun q54 => ((F_X12_tellLaw n q54 ((hi h 229 (Int32.toNatClampNeg (hi h 226 11))) - 24)).bind (fun q56 => some q56)))) else some q51)))) else none)) else none) (fun q => jR s hC q ∧ ((hi q 226 13).toInt = 0 → (hi h 226 11).toInt + 1 ≤ (hi q 226 11).toInt)) := by
    have f24 : (24 : Int32).toInt = 24 := by decide
    have f27 : (27 : Int32).toInt = 27 := by decide
    generalize ey : (hi h 229 (Int32.toNatClampNeg (hi h 226 11)) - 24 : Int32) = y
    have rk := rgT (hi h 229 (Int32.toNatClampNeg (hi h 226 11)))
    have fy := sbG ey rfl f24 (by omega) (by omega)
    have bad : Ok ((F_X12_fail n h 1).bind (fun q37 => (if ((hi q37 226 13) : Int32) ≤ 0 then ((F_X12_goesOn n q37).bind (fun q40 => ((F_X12_tellLaw n q40 y).bind (fun q42 => some q42)))) else some q37))) (fun q => jR s hC q ∧ ((hi q 226 13).toInt = 0 → (hi h 226 11).toInt + 1 ≤ (hi q 226 11).toInt)) := by
      refine Ok.bind (sr_fail t (by decide)) (fun q hq => ?_)
      refine Ok.le (fun c => ?_) (fun _ => Ok.ret ⟨j.p hq.1, fun z => absurd z hq.2.1⟩)
      have := hq.1.2.2.1.2.1
      exact absurd (show (hi q 226 13).toInt = 0 by omega) hq.2.1
    refine Ok.pos im ?_
    refine Ok.lt (fun _ => bad) (fun c1 => ?_)
    refine Ok.pos im ?_
    refine Ok.le (fun c2 => ?_) (fun _ => bad)
    refine Ok.le (fun _ => ?_) (fun c3 => by omega)
    refine Ok.bind (sr_goesOn t) (fun q hq => ?_)
    have jq := j.p hq.1
    have q39 : hi q 226 39 = hi h 226 39 := hq.1.1 226 39 (by decide)
    refine Ok.bind (sr_law (by omega) hs jq.l (x1 := y) (by omega) (by omega) (by rw [q39]; omega) (fun z => by have := (hq.2 z).2; rw [q39]; omega)) (fun r hr => ?_)
    refine Ok.ret ⟨hr.1, fun z => ?_⟩
    have := (hq.2 (hr.2.2 z)).2
    have := hr.2.1
    omega
  unfold F_X12_tellOne
  refine Ok.pos im ?_
  refine Ok.ite (fun _ => ?_) (fun _ => ?_)
  · refine Ok.bind (sr_goesOn t) (fun q3 hq3 => ?_)
    have j3 := j.p hq3.1
    refine Ok.bind (sr_bounded j3.1.2.2.1) (fun q5 hq5 => ?_)
    have j5 := j3.p hq5.1
    obtain ⟨k1, k2⟩ := j3.side hs
    refine Ok.pos k1 ?_
    rw [k2]
    have f2 := lit_2
    have f5 := lit_5
    have j6 : jR s hC (wrI q5.2 235 s q5.1) := j5.w35 (Or.inl rfl) (fun z1 z2 => by have := (hq5.2 z1).2.2 z2; omega)
    generalize eg6 : wrI q5.2 235 s q5.1 = g6 at j6
    refine Ok.bind (sr_bounded j6.1.2.2.1) (fun q8 hq8 => ?_)
    have j8 := j6.p hq8.1
    obtain ⟨k3, k4⟩ := j6.side hs
    refine Ok.pos k3 ?_
    rw [k4]
    have j9 : jR s hC (wrI q8.2 236 s q8.1) := j8.w35 (Or.inr rfl) (fun z1 z2 => by have := (hq8.2 z1).2.2 z2; omega)
    generalize eg9 : wrI q8.2 236 s q8.1 = g9 at j9
    refine Ok.bind (sr_must j9.1.2.2.1) (fun q hq => ?_)
    have g6s (z : Nat) : hi g6 226 z = hi q5.2 226 z := hiA eg6 226 z (by decide)
    have g9s (z : Nat) : hi g9 226 z = hi q8.2 226 z := hiA eg9 226 z (by decide)
    refine Ok.ret ⟨j9.p hq.1, fun z => ?_⟩
    have y1 := hq.2 z
    rw [g9s, g9s] at y1
    have y2 := hq8.2 y1.1
    rw [g6s, g6s] at y2
    have y3 := hq5.2 y2.1
    have y4 := hq3.2 y3.1
    omega
  refine Ok.ite (fun _ => ?_) (fun _ => ?_)
  · refine Ok.pos i1 ?_
    rw [i2]
    have f8 := lit_8
    refine Ok.bind (sr_room t) (fun q hq => ?_)
    have jq := j.p hq.1
    refine Ok.eq (fun c => ?_) (fun c => Ok.ret ⟨jq, fun z => by omega⟩)
    have y := hq.2 (by omega)
    have r : hi q 237 s = hi h 237 s := hq.1.1 237 s (pK226 (by decide))
    refine Ok.bind (sr_tune hs jq (by rw [r]; omega)) (fun u hu => ?_)
    exact Ok.ret ⟨hu.1, fun z => by have := hu.2.1; omega⟩
  refine Ok.ite (fun _ => ?_) (fun _ => ?_)
  · refine Ok.pos i1 ?_
    rw [i2]
    have f8 := lit_5
    refine Ok.bind (sr_room t) (fun q hq => ?_)
    have jq := j.p hq.1
    refine Ok.eq (fun c => ?_) (fun c => Ok.ret ⟨jq, fun z => by omega⟩)
    have y := hq.2 (by omega)
    have r : hi q 242 s = hi h 242 s := hq.1.1 242 s (pK226 (by decide))
    refine Ok.bind (sr_goer (by omega) hs jq (by rw [r]; omega)) (fun u hu => ?_)
    exact Ok.ret ⟨hu.1, fun z => by have := hu.2.1; omega⟩
  refine Ok.ite (fun _ => ?_) (fun _ => ?_)
  · refine Ok.pos i1 ?_
    rw [i2]
    have f8 := lit_8
    refine Ok.bind (sr_room t) (fun q hq => ?_)
    have jq := j.p hq.1
    refine Ok.eq (fun c => ?_) (fun c => Ok.ret ⟨jq, fun z => by omega⟩)
    have y := hq.2 (by omega)
    have r : hi q 245 s = hi h 245 s := hq.1.1 245 s (pK226 (by decide))
    refine Ok.bind (sr_rope hs jq (by rw [r]; omega)) (fun u hu => ?_)
    exact Ok.ret ⟨hu.1, fun z => by have := hu.2.1; omega⟩
  refine Ok.ite (fun _ => TL) (fun _ => ?_)
  refine Ok.ite (fun _ => TL) (fun _ => ?_)
  refine Ok.ite (fun _ => TL) (fun _ => ?_)
  refine Ok.ite (fun _ => TL) (fun _ => ?_)
  have two (a : Nat) (ha : a = 248 ∨ a = 249) (y : Int32) : Ok ((F_X12_goesOn n h).bind (fun q131 => ((F_X12_bounded n q131 0 y).bind (fun q133 => (if ixOK (hi q131 226 19) 2 = true then ((F_X12_must n (wrI q133.2 a (Int32.toNatClampNeg (hi q131 226 19)) q133.1) 4).bind (fun q136 => some q136)) else none))))) (fun q => jR s hC q ∧ ((hi q 226 13).toInt = 0 → (hi h 226 11).toInt + 1 ≤ (hi q 226 11).toInt)) := by
    refine Ok.bind (sr_goesOn t) (fun q3 hq3 => ?_)
    have j3 := j.p hq3.1
    refine Ok.bind (sr_bounded j3.1.2.2.1) (fun q5 hq5 => ?_)
    have j5 := j3.p hq5.1
    obtain ⟨k1, k2⟩ := j3.side hs
    refine Ok.pos k1 ?_
    rw [k2]
    have j6 : jR s hC (wrI q5.2 a s q5.1) := j5.w48 ha
    generalize eg6 : wrI q5.2 a s q5.1 = g6 at j6
    have g6s (z : Nat) : hi g6 226 z = hi q5.2 226 z := hiA eg6 226 z (by omega)
    refine Ok.bind (sr_must j6.1.2.2.1) (fun q hq => ?_)
    refine Ok.ret ⟨j6.p hq.1, fun z => ?_⟩
    have y1 := hq.2 z
    rw [g6s, g6s] at y1
    have y3 := hq5.2 y1.1
    have y4 := hq3.2 y3.1
    omega
  refine Ok.ite (fun _ => two 248 (Or.inl rfl) 100) (fun _ => ?_)
  exact Ok.ite (fun _ => two 249 (Or.inr rfl) 9999) (fun _ => TL)
end ON
end
