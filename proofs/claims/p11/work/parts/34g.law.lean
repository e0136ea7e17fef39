/-! READING: laws -/
theorem oc_cg {f fi g gi : Nat → Int32} {s e : Nat} (c1 : ∀ i, s ≤ i → i < e → g i = f i) (c2 : ∀ i, s ≤ i → i < e → gi i = fi i) (o : ocO f fi s e) : ocO g gi s e := by
  refine ⟨o.1, o.2.1, fun m hm => ?_⟩
  have o1 := o.1
  rw [dp_cg (f := g) (g := f) m (fun i h1 h2 => c1 i h1 (by omega)), c1 (s + m) (by omega) (by omega), c2 (s + m) (by omega) (by omega)]
  exact o.2.2 m hm
theorem oi_cg {f fi g gi : Nat → Int32} {x y : Int32} (T : Int) (hy : y.toInt ≤ T) (c1 : ∀ i : Nat, (i : Int) < T → g i = f i) (c2 : ∀ i : Nat, (i : Int) < T → gi i = fi i) (o : oiO f fi x y) : oiO g gi x y := by
  have ny := ncT o.2.1
  exact ⟨o.1, o.2.1, oc_cg (fun i _ h2 => c1 i (by omega)) (fun i _ h2 => c2 i (by omega)) o.2.2⟩
theorem oi_le {f fi : Nat → Int32} {x y : Int32} (o : oiO f fi x y) : x.toInt ≤ y.toInt := by
  have n1 := ncT o.1
  have n2 := ncT o.2.1
  have := o.2.2.1
  omega
/-- a branch stands, where orders below its end and its own row are as they were -/
theorem ob_cx {L : Int} {h h' : Hp} {b : Nat} (f : ∀ a, 252 ≤ a → a ≤ 256 → hi h' a b = hi h a b) (g : ∀ a (k : Nat), (a = 257 ∨ a = 258) → (k : Int) < (hi h 256 b).toInt → hi h' a k = hi h a k) (o : obO L h b) : obO L h' b := by
  obtain ⟨o1, o2, o3, o4, o5⟩ := o
  have e2 := oi_le o2
  unfold obO
  rw [f 252 (by decide) (by decide), f 253 (by decide) (by decide), f 254 (by decide) (by decide), f 255 (by decide) (by decide), f 256 (by decide) (by decide)]
  have c1 : ∀ i : Nat, (i : Int) < (hi h 256 b).toInt → hi h' 257 i = hi h 257 i := fun i h1 => g 257 i (Or.inl rfl) h1
  have c2 : ∀ i : Nat, (i : Int) < (hi h 256 b).toInt → hi h' 258 i = hi h 258 i := fun i h1 => g 258 i (Or.inr rfl) h1
  refine ⟨fun q => ?_, oi_cg _ (Int.le_refl _) c1 c2 o2, o3, o4, o5⟩
  obtain ⟨q1, q2⟩ := o1 q
  have e1 := oi_le q2
  exact ⟨oi_cg _ (by omega) c1 c2 q1, oi_cg _ (by omega) c1 c2 q2⟩
/-- what an expression leaves -/
def xR (c0 : Nat) (h q : Hp) : Prop := ((∀ a x, eK c0 a x = false → hi q a x = hi h a x) ∧ (∀ a x, hl q a x = hl h a x)) ∧ tI q ∧ (((hi q 226 13).toInt = 0 → (hi h 226 13).toInt = 0) ∧ ((hi q 226 15).toInt = 0 → (hi h 226 15).toInt = 0) ∧ (hi h 226 11).toInt ≤ (hi q 226 11).toInt) ∧ ∃ c : Nat, (hi q 226 45).toInt = c ∧ c0 ≤ c ∧ (c : Int) ≤ c0 + (hi q 226 11).toInt - (hi h 226 11).toInt + 2 ∧ ((hi q 226 13).toInt = 0 → (hi q 226 12).toInt = 0 ∧ ocO (hi q 257) (hi q 258) c0 c ∧ (c : Int) ≤ c0 + (hi q 226 11).toInt - (hi h 226 11).toInt ∧ (hi h 226 11).toInt + 1 ≤ (hi q 226 11).toInt)
theorem sr_expr {n : Nat} {h : Hp} {c0 : Nat} (hn : 3000 ≤ n) (t : tI h) (fz : (hi h 226 13).toInt = 0) (op : (hi h 226 12).toInt = 0) (hc : (hi h 226 45).toInt = c0) (b : bO c0 h) : Ok (F_X12_expression n h) (fun q => xR c0 h q) := by
  have t1 := t.1
  have bb1 := b.1
  have bb2 := b.2
  have f0 := lit_0
  have r (k : Nat) (hk : k ≠ 49) : hi (wrI h 226 49 0) 226 k = hi h 226 k := by rw [hi_wrI, if_neg (by omega)]
  have ra (a k : Nat) (hk : a ≠ 226) : hi (wrI h 226 49 0) a k = hi h a k := by rw [hi_wrI, if_neg (by omega)]
  have e : eC h c0 (wrI h 226 49 0) c0 0 0 0 0 0 := by
    refine ⟨⟨fun a x q => ?_, fun _ _ => rfl⟩, tI_w t (by decide) (by decide) (by decide), ?_, ⟨by rw [r 45 (by decide)]; exact hc, by rw [hi_wrI, if_pos ⟨rfl, rfl⟩]; exact f0, by rw [r 12 (by decide)]; omega, by decide⟩, rfl, oc_zero _ _ (by omega), by rw [Nat.sub_self]; rfl⟩
    · have w := eKq q
      rw [hi_wrI, if_neg (by omega)]
    · rw [r 13 (by decide), r 15 (by decide), r 11 (by decide)]
      exact ⟨fun q => q, fun q => q, Int.le_refl _⟩
  have x : eA h c0 (wrI h 226 49 0) c0 0 := by
    unfold eA
    rw [r 13 (by decide), r 11 (by decide)]
    exact ⟨fun _ => by omega, by omega⟩
  unfold F_X12_expression
  rw [r 12 (by decide)]
  refine ((sr_exl (hE := h) (l2 := 0) b op n).1 _ c0 0 0 0 0 1 (by decide) e x (fun _ => by decide) ⟨fun _ => ?_, ?_⟩).mono (fun q hq => ?_)
  · rw [r 11 (by decide)]; omega
  · rw [r 11 (by decide)]; omega
  · obtain ⟨c, n', k, O, P, D, e1, x1, y1⟩ := hq
    obtain ⟨q1, q2, q3, ⟨q4, -, q5, -⟩, -, q6, -⟩ := e1
    have x2 := x1.2
    refine ⟨q1, q2, q3, c, q4, q6.1, by omega, fun z => ?_⟩
    have x3 := x1.1 z
    have y2 := y1 z
    exact ⟨by omega, q6, by omega, y2.2⟩
def jG0 (s : Nat) (h : Hp) : Prop := (hi h 226 12).toInt = 0 ∧ (hi h 226 20).toInt = (hi h 242 s).toInt ∧ (hi h 226 45).toInt ≤ 420 * s + (hi h 226 11).toInt ∧ ((hi h 226 15).toInt = 0 → vlO s h) ∧ lwR s h
def jL (s : Nat) (hC h : Hp) : Prop := jB s hC h ∧ ((hi h 226 13).toInt = 0 → jG0 s h)
/-- the branches f .. of the law that is told -/
def cuO (s : Nat) (f : Int) (h : Hp) : Prop := 130 * (s : Int) ≤ f ∧ f ≤ (hi h 226 39).toInt ∧ ∀ b : Nat, f ≤ b → (b : Int) < (hi h 226 39).toInt → obO s h b ∧ (hi h 256 b).toInt ≤ (hi h 226 45).toInt
section LL
variable {s : Nat} {hC h h' : Hp}
theorem jR.l (j : jR s hC h) : jL s hC h := ⟨j.1, fun z => ⟨(j.2 z).1, (j.2 z).2.1, (j.2 z).2.2.1, (j.2 z).2.2.2.2⟩⟩
theorem jL.r (j : jL s hC h) (a : (hi h 226 13).toInt = 0 → 4 * ((hi h 226 39).toInt - 130 * s) ≤ (hi h 226 11).toInt) : jR s hC h := ⟨j.1, fun z => ⟨(j.2 z).1, (j.2 z).2.1, (j.2 z).2.2.1, a z, (j.2 z).2.2.2⟩⟩
theorem jL.p (j : jL s hC h) (p : pR h h') : jL s hC h' := by
  obtain ⟨⟨⟨b1, b2⟩, ⟨b3, b4⟩, b5, b6, b7, b8⟩, g⟩ := j
  obtain ⟨p1, p2, p3, p4, p5, p6⟩ := p
  have r (a k : Nat) (ha : a ≠ 226) : hi h' a k = hi h a k := p1 a k (pK226 ha)
  have e2 := p1 226 2 (by decide)
  have e19 := p1 226 19 (by decide)
  have e20 := p1 226 20 (by decide)
  have e12 := p1 226 12 (by decide)
  have e45 := p1 226 45 (by decide)
  have e39 := p1 226 39 (by decide)
  refine ⟨⟨⟨fun a k q => (p1 a k (frB_p q)).trans (b1 a k q), fun a k q => (p2 a k).trans (b2 a k q)⟩, ⟨by rw [e2]; exact b3, by rw [e19]; exact b4⟩, p3, ?_, by rw [e45]; omega, by rw [e39]; exact b8⟩, fun z => ?_⟩
  · unfold cnB
    rw [r 237 s (by decide), r 242 s (by decide), r 245 s (by decide), e20]
    exact b6
  · obtain ⟨g1, g2, g3, g5, g6⟩ := g (p5 z)
    refine ⟨by rw [e12]; exact g1, by rw [e20, r 242 s (by decide)]; exact g2, by rw [e45]; omega, fun w => (g5 (p6 w)).cg (fun a k h1 h2 => r a k (by omega)), g6.cg (fun a k h1 h2 => r a k (by omega)) (by rw [e39]; omega) (by rw [e45]; omega)⟩
theorem cuO.p {f : Int} (c : cuO s f h) (p : pR h h') : cuO s f h' := by
  have r (a k : Nat) (ha : a ≠ 226) : hi h' a k = hi h a k := p.1 a k (pK226 ha)
  unfold cuO
  rw [p.1 226 39 (by decide), p.1 226 45 (by decide)]
  refine ⟨c.1, c.2.1, fun b b1 b2 => ⟨(c.2.2 b b1 b2).1.cg (fun a k h1 h2 => r a k (by omega)), ?_⟩⟩
  rw [r 256 b (by decide)]
  exact (c.2.2 b b1 b2).2
/-- a write to the row of the branch that comes -/
theorem jL.wb (hs : s ≤ 1) (j : jL s hC h) {a k : Nat} {v : Int32} (h1 : 252 ≤ a) (h2 : a ≤ 256) (hk : (k : Int) = (hi h 226 39).toInt) : jL s hC (wrI h a k v) := by
  obtain ⟨⟨⟨b1, b2⟩, ⟨b3, b4⟩, b5, b6, b7, b8⟩, g⟩ := j
  have r (a' k' : Nat) (ha : ¬ (a' = a ∧ k' = k)) : hi (wrI h a k v) a' k' = hi h a' k' := by rw [hi_wrI, if_neg ha]
  have r2 (k' : Nat) : hi (wrI h a k v) 226 k' = hi h 226 k' := r 226 k' (by omega)
  refine ⟨⟨⟨fun a' k' q => ?_, fun a' k' q => b2 a' k' q⟩, ⟨by rw [r2]; exact b3, by rw [r2]; exact b4⟩, tI_a b5 (by omega), b6.w (by omega) (by omega) (by omega) (by omega), by rw [r2, r2]; exact b7, by rw [r2]; exact b8⟩, fun z => ?_⟩
  · rw [r a' k' (by unfold frB at q; omega)]
    exact b1 a' k' q
  · rw [r2] at z
    obtain ⟨g1, g2, g3, g5, g6⟩ := g z
    refine ⟨by rw [r2]; exact g1, by rw [r2, r 242 s (by omega)]; exact g2, by rw [r2, r2]; exact g3, fun w => (g5 (by rw [r2] at w; exact w)).cg (fun a' k' q1 q2 => r a' k' (by omega)), fun i q1 q2 => ?_⟩
    rw [r 250 i (by omega), r 251 i (by omega), r2, r2]
    rcases g6 i q1 q2 with q | ⟨y1, y2, y3⟩
    · exact Or.inl q
    · refine Or.inr ⟨y1, y2, fun b c1 c2 => ?_⟩
      have y := y3 b c1 c2
      rw [r 256 b (by omega)]
      exact ⟨ob_cx (fun a' q1 q2 => r a' b (by omega)) (fun a' k' q1 _ => r a' k' (by omega)) y.1, y.2⟩
theorem cuO.wb {f : Int} (c : cuO s f h) {a k : Nat} {v : Int32} (h1 : 252 ≤ a) (h2 : a ≤ 256) (hk : (k : Int) = (hi h 226 39).toInt) : cuO s f (wrI h a k v) := by
  have r (a' k' : Nat) (ha : ¬ (a' = a ∧ k' = k)) : hi (wrI h a k v) a' k' = hi h a' k' := by rw [hi_wrI, if_neg ha]
  unfold cuO
  rw [r 226 39 (by omega), r 226 45 (by omega)]
  refine ⟨c.1, c.2.1, fun b c1 c2 => ?_⟩
  have y := c.2.2 b c1 c2
  rw [r 256 b (by omega)]
  exact ⟨ob_cx (fun a' q1 q2 => r a' b (by omega)) (fun a' k' q1 _ => r a' k' (by omega)) y.1, y.2⟩
theorem eKn {c0 a k : Nat} (h1 : a ≠ 226) (h2 : a ≠ 259) (h3 : ¬ ((a = 257 ∨ a = 258) ∧ c0 ≤ k ∧ k < 420 * (c0 / 420) + 420)) : eK c0 a k = false := by
  simp only [eK, pK, Bool.or_eq_false_iff, Bool.and_eq_false_iff, beq_eq_false_iff_ne, decide_eq_false_iff_not]
  omega
/-- behind an expression -/
theorem jL.x (hs : s ≤ 1) (j : jL s hC h) (fz : (hi h 226 13).toInt = 0) {c0 : Nat} (hc : (hi h 226 45).toInt = c0) (x : xR c0 h h') : jL s hC h' := by
  obtain ⟨⟨⟨b1, b2⟩, ⟨b3, b4⟩, b5, b6, b7, b8⟩, g⟩ := j
  obtain ⟨⟨x1, x2⟩, x3, ⟨x4, x5, x6⟩, c, x7, x8, x9, x10⟩ := x
  obtain ⟨g1, g2, g3, g5, g6⟩ := g fz
  have tt := b5.1
  have r (a k : Nat) (h1 : a ≠ 226) (h2 : a ≠ 259) (h3 : ¬ ((a = 257 ∨ a = 258) ∧ c0 ≤ k ∧ k < 420 * (c0 / 420) + 420)) : hi h' a k = hi h a k := x1 a k (eKn h1 h2 h3)
  have e2 := x1 226 2 rfl
  have e19 := x1 226 19 rfl
  have e20 := x1 226 20 rfl
  have e39 := x1 226 39 rfl
  refine ⟨⟨⟨fun a k q => ?_, fun a k q => (x2 a k).trans (b2 a k q)⟩, ⟨by rw [e2]; exact b3, by rw [e19]; exact b4⟩, x3, ?_, by rw [x7]; omega, by rw [e39]; exact b8⟩, fun z => ?_⟩
  · by_cases c26 : a = 226
    · subst c26
      have : k = 18 ∨ k = 59 ∨ k = 65 := by unfold frB at q; omega
      rw [← b1 226 k q]
      rcases this with rfl | rfl | rfl
      · exact x1 226 18 rfl
      · exact x1 226 59 rfl
      · exact x1 226 65 rfl
    · rw [r a k c26 (by unfold frB at q; omega) (by unfold frB at q; omega)]
      exact b1 a k q
  · unfold cnB
    rw [r 237 s (by decide) (by decide) (by omega), r 242 s (by decide) (by decide) (by omega), r 245 s (by decide) (by decide) (by omega), e20]
    exact b6
  · obtain ⟨y1, y2, y3, y4⟩ := x10 z
    refine ⟨y1, by rw [e20, r 242 s (by decide) (by decide) (by omega)]; exact g2, by rw [x7]; omega, fun w => (g5 (x5 w)).cg (fun a k h1 h2 => r a k (by omega) (by omega) (by omega)), fun i q1 q2 => ?_⟩
    rw [r 250 i (by decide) (by decide) (by omega), r 251 i (by decide) (by decide) (by omega), e39, x7]
    rcases g6 i q1 q2 with q | ⟨w1, w2, w3⟩
    · exact Or.inl q
    · refine Or.inr ⟨w1, w2, fun b c1 c2 => ?_⟩
      have y := w3 b c1 c2
      rw [r 256 b (by decide) (by decide) (by omega)]
      exact ⟨ob_cx (fun a' q1 q2 => r a' b (by omega) (by omega) (by omega)) (fun a' k' q1 q2 => r a' k' (by omega) (by omega) (by omega)) y.1, by omega⟩
theorem cuO.x {f : Int} (c : cuO s f h) {c0 : Nat} (hc : (hi h 226 45).toInt = c0) (x : xR c0 h h') : cuO s f h' := by
  obtain ⟨⟨x1, x2⟩, x3, -, c', x7, x8, -⟩ := x
  have r (a k : Nat) (h1 : a ≠ 226) (h2 : a ≠ 259) (h3 : ¬ ((a = 257 ∨ a = 258) ∧ c0 ≤ k ∧ k < 420 * (c0 / 420) + 420)) : hi h' a k = hi h a k := x1 a k (eKn h1 h2 h3)
  unfold cuO
  rw [x1 226 39 rfl, x7]
  refine ⟨c.1, c.2.1, fun b b1 b2 => ?_⟩
  have y := c.2.2 b b1 b2
  rw [r 256 b (by decide) (by decide) (by omega)]
  exact ⟨ob_cx (fun a' q1 q2 => r a' b (by omega) (by omega) (by omega)) (fun a' k' q1 q2 => r a' k' (by omega) (by omega) (by omega)) y.1, by omega⟩
end LL
