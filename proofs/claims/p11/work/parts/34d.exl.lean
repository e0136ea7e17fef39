/-! READING: an expression's loop -/
theorem tI_w {h : Hp} {k0 : Nat} {v : Int32} (t : tI h) (n1 : k0 ≠ 11) (n2 : k0 ≠ 13) (n3 : k0 ≠ 15) : tI (wrI h 226 k0 v) := by
  show (0 ≤ (hi _ 226 11).toInt ∧ (hi _ 226 11).toInt ≤ 400) ∧ 0 ≤ (hi _ 226 13).toInt ∧ 0 ≤ (hi _ 226 15).toInt
  rw [hi_wrI, if_neg (by omega), hi_wrI, if_neg (by omega), hi_wrI, if_neg (by omega)]
  exact t
theorem tI_a {h : Hp} {a k0 : Nat} {v : Int32} (t : tI h) (n1 : a ≠ 226) : tI (wrI h a k0 v) := by
  show (0 ≤ (hi _ 226 11).toInt ∧ (hi _ 226 11).toInt ≤ 400) ∧ 0 ≤ (hi _ 226 13).toInt ∧ 0 ≤ (hi _ 226 15).toInt
  rw [hi_wrI, if_neg (by omega), hi_wrI, if_neg (by omega), hi_wrI, if_neg (by omega)]
  exact t
theorem sr_is2 {n : Nat} {h : Hp} {x : Int32} (t : tI h) : Ok (F_X12_is n h x) (fun q => q.2 = h ∧ (0 ≤ q.1.toInt ∧ q.1.toInt ≤ 1) ∧ (q.1.toInt ≠ 0 → (hi h 229 (Int32.toNatClampNeg (hi h 226 11))).toInt = x.toInt) ∧ (q.1.toInt = 0 → (hi h 226 13).toInt = 0 → (hi h 229 (Int32.toNatClampNeg (hi h 226 11))).toInt ≠ x.toInt)) := by
  have f0 := lit_0
  have f1 := lit_1
  have t1 := t.1
  unfold F_X12_is
  refine Ok.eq (fun c1 => ?_) (fun c1 => ?_)
  · refine Ok.chk (ixT (by omega) (by omega)) (fun c2 => ?_)
    refine Ok.eq (fun c3 => ?_) (fun c3 => ?_)
    · exact Ok.ret ⟨rfl, by show 0 ≤ (1 : Int32).toInt ∧ (1 : Int32).toInt ≤ 1; omega, fun _ => c3, fun q => absurd (lit_1.symm.trans q) (by decide)⟩
    · exact Ok.ret ⟨rfl, by show 0 ≤ (0 : Int32).toInt ∧ (0 : Int32).toInt ≤ 1; omega, fun q => absurd lit_0 q, fun _ _ => c3⟩
  · exact Ok.ret ⟨rfl, by show 0 ≤ (0 : Int32).toInt ∧ (0 : Int32).toInt ≤ 1; omega, fun q => absurd lit_0 q, fun _ q => absurd (q.trans lit_0.symm) c1⟩
def exR (hE : Hp) (c0 : Nat) (q : Hp) : Prop := ∃ (c n k O P : Nat) (D : Int), eC hE c0 q c n k O P D ∧ eA hE c0 q c P ∧ ((hi q 226 13).toInt = 0 → O = 0 ∧ (hi hE 226 11).toInt + 1 ≤ (hi q 226 11).toInt)
section EL
variable {hE : Hp} {c0 : Nat}
theorem eC.topp {h : Hp} {c n k O P : Nat} {D : Int} (e : eC hE c0 h c n k O P D) {h' : Hp} {n' k' O' P' : Nat} (f : ∀ a z, pK a z = false → ¬ (a = 226 ∧ (z = 12 ∨ z = 49)) → a ≠ 259 → hi h' a z = hi h a z) (l : ∀ a z, hl h' a z = hl h a z) (t : tI h') (m1 : (hi h' 226 13).toInt = 0 → (hi h 226 13).toInt = 0) (m2 : (hi h' 226 15).toInt = 0 → (hi h 226 15).toInt = 0) (m3 : (hi h 226 11).toInt ≤ (hi h' 226 11).toInt) (hn : (hi h' 226 49).toInt = n') (ho : (hi h' 226 12).toInt = O') (o7 : O' ≤ 7) (w : wtO (hi h' 259) n' = some (k', O', P')) : eC hE c0 h' c n' k' O' P' D := by
  obtain ⟨⟨e1, e2⟩, e3, ⟨e4, e5, e6⟩, ⟨e7, e8, e9, e10⟩, e11, e12, e13⟩ := e
  have r (a : Nat) (h1 : a ≠ 226) (h2 : a ≠ 259) : hi h' a = hi h a := funext fun x => f a x (pK226 h1) (by omega) h2
  refine ⟨⟨fun a x q => ?_, fun a z => (l a z).trans (e2 a z)⟩, t, ⟨fun q => e4 (m1 q), fun q => e5 (m2 q), by omega⟩, ⟨?_, hn, ho, o7⟩, w, ?_, ?_⟩
  · have w := eKq q
    rw [f a x w.1 (by omega) w.2.2.1]
    exact e1 a x q
  · rw [f 226 45 (by decide) (by decide) (by decide)]; exact e7
  · rw [r 257 (by decide) (by decide), r 258 (by decide) (by decide)]; exact e12
  · rw [r 257 (by decide) (by decide)]; exact e13
/-- a ( waits -/
theorem push_o {h q : Hp} {c n k O P : Nat} {D : Int} (e : eC hE c0 h c n k O P D) (o6 : O ≤ 6) (p : pR (wrI h 226 12 (hi h 226 12 + 1)) q) : ∃ g, g = wrI (wrI q 259 (Int32.toNatClampNeg (hi q 226 49)) 6) 226 49 (hi (wrI q 259 (Int32.toNatClampNeg (hi q 226 49)) 6) 226 49 + 1) ∧ eC hE c0 g c (n + 1) 0 (O + 1) P D ∧ hi g 226 11 = hi q 226 11 ∧ hi g 226 13 = hi q 226 13 := by
  refine ⟨_, rfl, ?_⟩
  have f1 := lit_1
  have f6 := lit_6
  obtain ⟨p1, p2, p3, p4, p5, p6⟩ := p
  have e49 := e.2.2.2.1.2.1
  have e12 := e.2.2.2.1.2.2.1
  have w := e.2.2.2.2.1
  have wb := wt_bd _ _ _ _ w
  have r49 : hi q 226 49 = hi h 226 49 := (p1 226 49 (by decide)).trans (by rw [hi_wrI, if_neg (by decide)])
  have r12 : hi q 226 12 = hi h 226 12 + 1 := (p1 226 12 (by decide)).trans (by rw [hi_wrI, if_pos ⟨rfl, rfl⟩])
  have nq := ncT (show 0 ≤ (hi q 226 49).toInt by rw [r49]; omega)
  rw [r49] at nq
  have en : Int32.toNatClampNeg (hi q 226 49) = n := by rw [r49]; omega
  rw [en]
  generalize eg : wrI q 259 n 6 = g
  have g49 : hi g 226 49 = hi h 226 49 := (hiA eg 226 49 (by decide)).trans r49
  rw [g49]
  have a1 := adT (hi h 226 49) 1 (by omega) (by omega)
  have a2 := adT (hi h 226 12) 1 (by omega) (by omega)
  generalize eg2 : wrI g 226 49 (hi h 226 49 + 1) = g2
  have s (k : Nat) (hk : k ≠ 49) : hi g2 226 k = hi q 226 k := (hiK eg2 226 k hk).trans (hiA eg 226 k (by decide))
  have w11 : hi (wrI h 226 12 (hi h 226 12 + 1)) 226 11 = hi h 226 11 := by rw [hi_wrI, if_neg (by decide)]
  have w13 : hi (wrI h 226 12 (hi h 226 12 + 1)) 226 13 = hi h 226 13 := by rw [hi_wrI, if_neg (by decide)]
  have w15 : hi (wrI h 226 12 (hi h 226 12 + 1)) 226 15 = hi h 226 15 := by rw [hi_wrI, if_neg (by decide)]
  rw [w11] at p4
  rw [w13] at p5
  rw [w15] at p6
  refine ⟨e.topp (fun a z q1 q2 q3 => ?_) (fun a z => ?_) ?_ (by rw [s 13 (by decide)]; exact p5) (by rw [s 15 (by decide)]; exact p6) (by rw [s 11 (by decide)]; exact p4) ?_ ?_ (by omega) ?_, s 11 (by decide), s 13 (by decide)⟩
  · rw [← eg2, hi_wrI, if_neg (by omega), ← eg, hi_wrI, if_neg (by omega), p1 a z q1, hi_wrI, if_neg (by omega)]
  · rw [← eg2, ← eg]
    exact p2 a z
  · rw [← eg2]
    exact tI_w (by rw [← eg]; exact tI_a p3 (by decide)) (by decide) (by decide) (by decide)
  · rw [hiE eg2]; omega
  · rw [s 12 (by decide), r12]; omega
  · have h259 (i : Nat) (hh : i ≠ n) : hi g2 259 i = hi h 259 i := by
      rw [hiA eg2 259 i (by decide), hiK eg 259 i hh, p1 259 i (pK226 (by decide)), hi_wrI, if_neg (fun z => absurd z.1 (by decide))]
    refine wt_o (k := k) (O := O) (P := P) ?_ ?_
    · rw [wt_cg n (fun i il => h259 i (by omega))]
      exact w
    · rw [hiA eg2 259 n (by decide), hiE eg]
      exact lit_6
/-- an order waits -/
theorem push_op {h : Hp} {c n k O P : Nat} {D : Int} (e : eC hE c0 h c n k O P D) {v : Int32} {k2 : Nat} (hv : ((v.toInt = 8 ∨ v.toInt = 9) ∧ k = 0 ∧ k2 = 1) ∨ ((v.toInt = 10 ∨ v.toInt = 15) ∧ k ≤ 1 ∧ k2 = 2)) : eC hE c0 (wrI (wrI h 259 (Int32.toNatClampNeg (hi h 226 49)) v) 226 49 (hi (wrI h 259 (Int32.toNatClampNeg (hi h 226 49)) v) 226 49 + 1)) c (n + 1) k2 O (P + 1) D := by
  have f1 := lit_1
  have e49 := e.2.2.2.1.2.1
  have o7 := e.2.2.2.1.2.2.2
  have w := e.2.2.2.2.1
  have wb := wt_bd _ _ _ _ w
  have nq := ncT (show 0 ≤ (hi h 226 49).toInt by omega)
  have en : Int32.toNatClampNeg (hi h 226 49) = n := by omega
  rw [en]
  generalize eg : wrI h 259 n v = g
  have g49 : hi g 226 49 = hi h 226 49 := hiA eg 226 49 (by decide)
  rw [g49]
  have a1 := adT (hi h 226 49) 1 (by omega) (by omega)
  generalize eg2 : wrI g 226 49 (hi h 226 49 + 1) = g2
  have h259 (i : Nat) (hh : i ≠ n) : hi g2 259 i = hi h 259 i := by
    rw [hiA eg2 259 i (by decide), hiK eg 259 i hh]
  have hv9 : hi g2 259 n = v := by
    rw [hiA eg2 259 n (by decide), hiE eg]
  refine e.top (fun a z q1 q2 => ?_) (fun a z => by rw [← eg2, ← eg]; rfl) (by rw [hiE eg2]; omega) ?_ o7 ?_
  · rw [← eg2, hi_wrI, if_neg (by omega), ← eg, hi_wrI, if_neg (by omega)]
  · rw [hiK eg2 226 12 (by decide), hiA eg 226 12 (by decide)]
    exact e.2.2.2.1.2.2.1
  · have w' : wtO (hi g2 259) n = some (k, O, P) := by
      rw [wt_cg n (fun i il => h259 i (by omega))]
      exact w
    rcases hv with ⟨v1, v2, v3⟩ | ⟨v1, v2, v3⟩
    · subst v2 v3
      exact wt_w w' (by rw [hv9]; exact v1)
    · subst v3
      exact wt_s w' v2 (by rw [hv9]; exact v1)
/-- a ( is closed -/
theorem pop_o {h : Hp} {c n O P : Nat} {D : Int} (e : eC hE c0 h c n 0 O P D) (o1 : 1 ≤ O) : ∃ k1, eC hE c0 (wrI (wrI h 226 49 (hi h 226 49 - 1)) 226 12 (hi (wrI h 226 49 (hi h 226 49 - 1)) 226 12 - 1)) c (n - 1) k1 (O - 1) P D := by
  have f1 := lit_1
  have e49 := e.2.2.2.1.2.1
  have e12 := e.2.2.2.1.2.2.1
  have o7 := e.2.2.2.1.2.2.2
  have w := e.2.2.2.2.1
  have wb := wt_bd _ _ _ _ w
  obtain ⟨n1, rfl⟩ : ∃ n1, n = n1 + 1 := ⟨n - 1, by omega⟩
  obtain ⟨k1, O1, P1, w1, w2⟩ := wt_pop w
  have w3 : O = O1 + 1 ∧ P = P1 := by omega
  refine ⟨k1, ?_⟩
  have r12 : hi (wrI h 226 49 (hi h 226 49 - 1)) 226 12 = hi h 226 12 := by rw [hi_wrI, if_neg (by decide)]
  rw [r12]
  generalize ey : (hi h 226 49 - 1 : Int32) = y
  have fy := sbG ey rfl lit_1 (by omega) (by omega)
  generalize ez : (hi h 226 12 - 1 : Int32) = z
  have fz := sbG ez rfl lit_1 (by omega) (by omega)
  generalize eg : wrI h 226 49 y = g
  generalize eg2 : wrI g 226 12 z = g2
  have h259 : hi g2 259 = hi h 259 := funext fun i => (hiA eg2 259 i (by decide)).trans (hiA eg 259 i (by decide))
  refine e.top (fun a z q1 q2 => ?_) (fun a z => by rw [← eg2, ← eg]; rfl) (by rw [hiK eg2 226 49 (by decide), hiE eg]; omega) (by rw [hiE eg2]; omega) (by omega) ?_
  · rw [← eg2, hi_wrI, if_neg (by omega), ← eg, hi_wrI, if_neg (by omega)]
  · rw [h259, Nat.add_sub_cancel, w3.1, Nat.add_sub_cancel, w3.2]
    exact w1
def exS (m : Nat) (r : Int) (h : Hp) : Prop := ((hi h 226 13).toInt = 0 → (100 : Int) + 4 * (402 - (hi h 226 11).toInt) + r < m) ∧ (100 : Int) + 4 * (401 - (hi h 226 11).toInt) + r < m
set_option maxRecDepth 100000 in
set_option maxHeartbeats 8000000 in
theorem sr_exl (b : bO c0 hE) {l1 l2 : Int32} (z1 : l1.toInt = 0) : ∀ n : Nat, (∀ (h : Hp) (c w k O P : Nat) (l2 : Int32), l2.toInt ≠ 0 → eC hE c0 h c w k O P (P : Int) → eA hE c0 h c P → ((hi h 226 13).toInt = 0 → O ≤ 6) → exS n 3 h → Ok (W_X12_expression n 12 h l1 l2) (fun q => exR hE c0 q)) ∧ (∀ (h : Hp) (c w k O P : Nat) (l2 : Int32), l2.toInt ≠ 0 → eC hE c0 h c w k O P (P : Int) → eA hE c0 h c P → ((hi h 226 13).toInt = 0 → O ≤ 6) → exS n 2 h → Ok (W_X12_expression n 23 h l1 l2) (fun q => exR hE c0 q)) ∧ (∀ (h : Hp) (c w k O P : Nat) (l2 : Int32), l2.toInt ≠ 0 → eC hE c0 h c w k O P ((P : Int) + 1) → eA hE c0 h c P → ((hi h 226 13).toInt = 0 → O ≤ 6) → ((hi h 226 13).toInt = 0 → (hi hE 226 11).toInt + 1 ≤ (hi h 226 11).toInt) → exS n 1 h → Ok (W_X12_expression n 96 h l1 l2) (fun q => exR hE c0 q)) := by
  intro n
  induction n with
  | zero =>
    refine ⟨?_, ?_, ?_⟩
    · intro h c w k O P l2 l e x o s
      have := e.2.1.1
      have := s.2
      exfalso; omega
    · intro h c w k O P l2 l e x o s
      have := e.2.1.1
      have := s.2
      exfalso; omega
    · intro h c w k O P l2 l e x o p s
      have := e.2.1.1
      have := s.2
      exfalso; omega
  | succ n ih =>
    have f0 := lit_0
    have f1 := lit_1
    refine ⟨?_, ?_, ?_⟩
    · intro h c w k O P l2 l e x o s
      have s1 := s.1
      have s2 := s.2
      rw [u_X12_expression]
      refine Ok.pos rfl ?_
      refine Ok.eq (fun q => by omega) (fun _ => ?_)
      refine Ok.eq (fun c1 => ?_) (fun c1 => ?_)
      · exact ih.2.1 h c w k O P l2 l e x o ⟨fun q => by have := s1 q; omega, by omega⟩
      · exact Ok.ret ⟨c, w, k, O, P, _, e, x, fun q => absurd (q.trans f0.symm) c1⟩
    · intro h c w k O P l2 l e x o s
      have s1 := s.1
      have s2 := s.2
      have t := e.2.1
      have t1 := t.1
      have wb := wt_bd _ _ _ _ e.2.2.2.2.1
      have o7 := e.2.2.2.1.2.2.2
      have e12 := e.2.2.2.1.2.2.1
      have e49 := e.2.2.2.1.2.1
      rw [u_X12_expression]
      refine Ok.neg (by decide) ?_
      refine Ok.pos rfl ?_
      refine Ok.bind (sr_is t) (fun q3 hq3 => ?_)
      obtain ⟨e3, y3⟩ := hq3
      rw [e3]
      refine Ok.eq (fun c1 => ?_) (fun c1 => ?_)
      · refine Ok.bind (sr_unit b e x) (fun q6 hq6 => ?_)
        refine Ok.le (fun c2 => ?_) (fun c2 => ?_)
        · have tq : 0 ≤ (hi q6 226 13).toInt := by
            obtain ⟨c', D', a1, -⟩ := hq6.2
            exact a1.2.1.2.1
          obtain ⟨hz, a1, a2, a3⟩ := hq6.1 (by omega)
          have em := e.2.2.1.2.2
          exact ih.2.2 q6 (c + 1) w k O P l2 l a1 a2 (fun _ => o hz) (fun _ => by omega) ⟨fun _ => by have := s1 hz; omega, by have := s1 hz; omega⟩
        · obtain ⟨c', D', a1, a2⟩ := hq6.2
          exact Ok.ret ⟨c', w, k, O, P, D', a1, a2, fun q => by omega⟩
      · have c2 := y3.2 (by omega)
        have o6 := o c2.1
        have s1 := s1 c2.1
        have xx := x.1 c2.1
        have fin (h1 : Hp) (p0 : pR h h1) (m13 : (hi h1 226 13).toInt = 0 → O ≤ 5) : Ok ((F_X12_goesOn n (wrI h1 226 12 (hi h1 226 12 + 1))).bind (fun q15 => (if ixOK (hi q15 226 49) 64 = true then W_X12_expression n 23 (wrI (wrI q15 259 (Int32.toNatClampNeg (hi q15 226 49)) 6) 226 49 ((hi (wrI q15 259 (Int32.toNatClampNeg (hi q15 226 49)) 6) 226 49) + 1)) l1 l2 else none))) (fun q => exR hE c0 q) := by
          have e' := e.p p0
          have x' := x.p p0
          refine Ok.bind (sr_goesOn (tI_w e'.2.1 (by decide) (by decide) (by decide))) (fun q hq => ?_)
          obtain ⟨g, g1, g2, g3, g4⟩ := push_o e' o6 hq.1
          have w13 : hi (wrI h1 226 12 (hi h1 226 12 + 1)) 226 13 = hi h1 226 13 := by rw [hi_wrI, if_neg (by decide)]
          have w11 : hi (wrI h1 226 12 (hi h1 226 12 + 1)) 226 11 = hi h1 226 11 := by rw [hi_wrI, if_neg (by decide)]
          have r49 : (hi q 226 49).toInt = w := by
            rw [hq.1.1 226 49 (by decide), hi_wrI, if_neg (by decide)]
            exact e'.2.2.2.1.2.1
          refine Ok.chk (ixT (by omega) (by omega)) (fun c4 => ?_)
          rw [← g1]
          have hq2 := hq.2
          rw [w13, w11] at hq2
          have m1 := hq.1.2.2.2.1
          rw [w11] at m1
          have m0 := p0.2.2.2.1
          have x2 := x'.2
          refine ih.2.1 g c (w + 1) 0 (O + 1) P l2 l g2 ⟨fun q' => ?_, ?_⟩ (fun q' => ?_) ⟨fun q' => ?_, ?_⟩
          · rw [g4] at q'
            rw [g3]
            have := x'.1 (hq2 q').1
            omega
          · rw [g3]; omega
          · rw [g4] at q'
            have := m13 (hq2 q').1
            omega
          · rw [g4] at q'
            rw [g3]
            have := (hq2 q').2
            omega
          · rw [g3]; omega
        have f6 := lit_6
        refine Ok.eq (fun c3 => ?_) (fun c3 => ?_)
        · refine Ok.bind (sr_fail t (by decide)) (fun q13 hq13 => ?_)
          exact fin q13 hq13.1 (fun q => absurd q hq13.2.1)
        · exact fin h (pR.rf t) (fun _ => by omega)
    · intro h c w k O P l2 l e x o p s
      have s1 := s.1
      have s2 := s.2
      have t := e.2.1
      have t1 := t.1
      have wb := wt_bd _ _ _ _ e.2.2.2.2.1
      have o7 := e.2.2.2.1.2.2.2
      have e12 := e.2.2.2.1.2.2.1
      have e49 := e.2.2.2.1.2.1
      have outs (h1 : Hp) (e1 : eC hE c0 h1 c w k O P ((P : Int) + 1)) (x1 : eA hE c0 h1 c P) (v : Int32) : Ok (F_X12_comesOut n h1 v) (fun q => ∃ c' n' k' P', eC hE c0 q c' n' k' O P' ((P' : Int) + 1) ∧ eA hE c0 q c' P' ∧ (v.toInt = 0 → k' = 0) ∧ k' ≤ 1 ∧ hi q 226 11 = hi h1 226 11 ∧ hi q 226 13 = hi h1 226 13 ∧ (∀ z, hi q 229 z = hi h1 229 z)) := by
        unfold F_X12_comesOut
        exact sr_out b n h1 c w k O P e1 x1 (by omega)
      have TE : Ok (if ((hi h 226 12) : Int32) ≤ (l1 : Int32) then ((F_X12_comesOut n h 0).bind (fun q155 => some q155)) else ((F_X12_fail n h 1).bind (fun q157 => ((F_X12_comesOut n q157 0).bind (fun q159 => some q159))))) (fun q => exR hE c0 q) := by
        refine Ok.le (fun c1 => ?_) (fun c1 => ?_)
        · refine Ok.bind (outs h e x 0) (fun q hq => ?_)
          obtain ⟨c', n', k', P', a1, a2, a3, a4, a5, a6, a7⟩ := hq
          refine Ok.ret ⟨c', n', k', O, P', _, a1, a2, fun z => ⟨by omega, ?_⟩⟩
          rw [a6] at z
          rw [a5]
          exact p z
        · refine Ok.bind (sr_fail t (by decide)) (fun q1 hq1 => ?_)
          refine Ok.bind (outs q1 (e.p hq1.1) (x.p hq1.1) 0) (fun q hq => ?_)
          obtain ⟨c', n', k', P', a1, a2, a3, a4, a5, a6, a7⟩ := hq
          refine Ok.ret ⟨c', n', k', O, P', _, a1, a2, fun z => ?_⟩
          rw [a6] at z
          exact absurd z hq1.2.1
      have TM (fz : (hi h 226 13).toInt = 0) (kd : (hi h 229 (Int32.toNatClampNeg (hi h 226 11))).toInt = 8 ∨ (hi h 229 (Int32.toNatClampNeg (hi h 226 11))).toInt = 9 ∨ (hi h 229 (Int32.toNatClampNeg (hi h 226 11))).toInt = 10 ∨ (hi h 229 (Int32.toNatClampNeg (hi h 226 11))).toInt = 15) : Ok ((F_X12_is n h 10).bind (fun q162 => (if (q162.1 : Int32) = 0 then ((F_X12_is n q162.2 15).bind (fun q171 => (if (q171.1 : Int32) = 0 then ((F_X12_comesOut n q171.2 0).bind (fun q174 => (if ixOK (hi q174 226 11) 403 = true then (if ixOK (hi q174 226 49) 64 = true then ((F_X12_goesOn n (wrI (wrI q174 259 (Int32.toNatClampNeg (hi q174 226 49)) (hi q174 229 (Int32.toNatClampNeg (hi q174 226 11)))) 226 49 ((hi (wrI q174 259 (Int32.toNatClampNeg (hi q174 226 49)) (hi q174 229 (Int32.toNatClampNeg (hi q174 226 11)))) 226 49) + 1))).bind (fun q178 => W_X12_expression n 12 q178 l1 1)) else none) else none))) else ((F_X12_comesOut n q171.2 1).bind (fun q180 => (if ixOK (hi q180 226 11) 403 = true then (if ixOK (hi q180 226 49) 64 = true then ((F_X12_goesOn n (wrI (wrI q180 259 (Int32.toNatClampNeg (hi q180 226 49)) (hi q180 229 (Int32.toNatClampNeg (hi q180 226 11)))) 226 49 ((hi (wrI q180 259 (Int32.toNatClampNeg (hi q180 226 49)) (hi q180 229 (Int32.toNatClampNeg (hi q180 226 11)))) 226 49) + 1))).bind (fun q184 => W_X12_expression n 12 q184 l1 1)) else none) else none)))))) else ((F_X12_comesOut n q162.2 1).bind (fun q165 => (if ixOK (hi q165 226 11) 403 = true then (if ixOK (hi q165 226 49) 64 = true then ((F_X12_goesOn n (wrI (wrI q165 259 (Int32.toNatClampNeg (hi q165 226 49)) (hi q165 229 (Int32.toNatClampNeg (hi q165 226 11)))) 226 49 ((hi (wrI q165 259 (Int32.toNatClampNeg (hi q165 226 49)) (hi q165 229 (Int32.toNatClampNeg (hi q165 226 11)))) 226 49) + 1))).bind (fun q169 => W_X12_expression n 12 q169 l1 1)) else none) else none)))))) (fun q => exR hE c0 q) := by
        have s1 := s1 fz
        have kk (v : Int32) (hv : (v.toInt = 0 ∧ ((hi h 229 (Int32.toNatClampNeg (hi h 226 11))).toInt = 8 ∨ (hi h 229 (Int32.toNatClampNeg (hi h 226 11))).toInt = 9)) ∨ (v.toInt ≠ 0 ∧ ((hi h 229 (Int32.toNatClampNeg (hi h 226 11))).toInt = 10 ∨ (hi h 229 (Int32.toNatClampNeg (hi h 226 11))).toInt = 15))) : Ok ((F_X12_comesOut n h v).bind (fun q142 => (if ixOK (hi q142 226 11) 403 = true then (if ixOK (hi q142 226 49) 64 = true then ((F_X12_goesOn n (wrI (wrI q142 259 (Int32.toNatClampNeg (hi q142 226 49)) (hi q142 229 (Int32.toNatClampNeg (hi q142 226 11)))) 226 49 ((hi (wrI q142 259 (Int32.toNatClampNeg (hi q142 226 49)) (hi q142 229 (Int32.toNatClampNeg (hi q142 226 11)))) 226 49) + 1))).bind (fun q146 => W_X12_expression n 12 q146 l1 1)) else none) else none))) (fun q => exR hE c0 q) := by
          refine Ok.bind (outs h e x v) (fun q hq => ?_)
          obtain ⟨c', n', k', P', a1, a2, a3, a4, a5, a6, a7⟩ := hq
          have wb' := wt_bd _ _ _ _ a1.2.2.2.2.1
          have q49 := a1.2.2.2.1.2.1
          have tq := a1.2.1.1
          refine Ok.chk (ixT (by omega) (by omega)) (fun c4 => ?_)
          refine Ok.chk (ixT (by omega) (by omega)) (fun c5 => ?_)
          have kd' : hi q 229 (Int32.toNatClampNeg (hi q 226 11)) = hi h 229 (Int32.toNatClampNeg (hi h 226 11)) := by rw [a7, a5]
          have ex : ∃ k2, (((hi q 229 (Int32.toNatClampNeg (hi q 226 11))).toInt = 8 ∨ (hi q 229 (Int32.toNatClampNeg (hi q 226 11))).toInt = 9) ∧ k' = 0 ∧ k2 = 1) ∨ (((hi q 229 (Int32.toNatClampNeg (hi q 226 11))).toInt = 10 ∨ (hi q 229 (Int32.toNatClampNeg (hi q 226 11))).toInt = 15) ∧ k' ≤ 1 ∧ k2 = 2) := by
            rw [kd']
            rcases hv with ⟨v1, v2⟩ | ⟨v1, v2⟩
            · exact ⟨1, Or.inl ⟨v2, a3 v1, rfl⟩⟩
            · exact ⟨2, Or.inr ⟨v2, a4, rfl⟩⟩
          obtain ⟨k2, hk2⟩ := ex
          have e2 := push_op a1 hk2
          have x2 := a2.1 (by rw [a6]; exact fz)
          generalize eg : wrI (wrI q 259 (Int32.toNatClampNeg (hi q 226 49)) (hi q 229 (Int32.toNatClampNeg (hi q 226 11)))) 226 49 (hi (wrI q 259 (Int32.toNatClampNeg (hi q 226 49)) (hi q 229 (Int32.toNatClampNeg (hi q 226 11)))) 226 49 + 1) = g at e2
          have g11 : hi g 226 11 = hi h 226 11 := by
            rw [← eg, hi_wrI, if_neg (by decide), hi_wrI, if_neg (fun z => absurd z.1 (by decide))]
            exact a5
          have g13 : hi g 226 13 = hi h 226 13 := by
            rw [← eg, hi_wrI, if_neg (by decide), hi_wrI, if_neg (fun z => absurd z.1 (by decide))]
            exact a6
          rw [a5] at x2
          refine Ok.bind (sr_goesOn e2.2.1) (fun q6 hq6 => ?_)
          have e3 := e2.p hq6.1
          have m1 := hq6.1.2.2.2.1
          have h2 := hq6.2
          rw [g11] at m1 h2
          rw [g13] at h2
          rw [show (P' : Int) + 1 = ((P' + 1 : Nat) : Int) by omega] at e3
          refine ih.1 q6 c' (n' + 1) k2 O (P' + 1) 1 (by decide) e3 ⟨fun z => ?_, by omega⟩ (fun _ => o fz) ⟨fun z => ?_, by omega⟩
          · have := (h2 z).2
            omega
          · have := (h2 z).2
            omega
        refine Ok.bind (sr_is2 t) (fun q1 hq1 => ?_)
        obtain ⟨i1, j1⟩ := hq1
        rw [i1]
        have f10 := lit_10
        have f15 : (15 : Int32).toInt = 15 := by decide
        refine Ok.eq (fun d1 => ?_) (fun d1 => ?_)
        · refine Ok.bind (sr_is2 t) (fun q2 hq2 => ?_)
          obtain ⟨i2, j2⟩ := hq2
          rw [i2]
          refine Ok.eq (fun d2 => ?_) (fun d2 => ?_)
          · exact kk 0 (Or.inl ⟨f0, by have u1 := j1.2.2 (by omega) fz; have u2 := j2.2.2 (by omega) fz; omega⟩)
          · exact kk 1 (Or.inr ⟨by decide, by have := j2.2.1 (by omega); omega⟩)
        · exact kk 1 (Or.inr ⟨by decide, by have := j1.2.1 (by omega); omega⟩)
      have CH : Ok ((F_X12_is n h 8).bind (fun q21 => (if (q21.1 : Int32) = 0 then ((F_X12_is n q21.2 9).bind (fun q56 => (if (q56.1 : Int32) = 0 then ((F_X12_is n q56.2 10).bind (fun q91 => (if (q91.1 : Int32) = 0 then ((F_X12_is n q91.2 15).bind (fun q126 => (if (q126.1 : Int32) = 0 then (if (0 : Int32) = 0 then (if ((hi q126.2 226 12) : Int32) ≤ (l1 : Int32) then ((F_X12_comesOut n q126.2 0).bind (fun q155 => some q155)) else ((F_X12_fail n q126.2 1).bind (fun q157 => ((F_X12_comesOut n q157 0).bind (fun q159 => some q159))))) else ((F_X12_is n q126.2 10).bind (fun q130 => (if (q130.1 : Int32) = 0 then ((F_X12_is n q130.2 15).bind (fun q139 => (if (q139.1 : Int32) = 0 then ((F_X12_comesOut n q139.2 0).bind (fun q142 => (if ixOK (hi q142 226 11) 403 = true then (if ixOK (hi q142 226 49) 64 = true then ((F_X12_goesOn n (wrI (wrI q142 259 (Int32.toNatClampNeg (hi q142 226 49)) (hi q142 229 (Int32.toNatClampNeg (hi q142 226 11)))) 226 49 ((hi (wrI q142 259 (Int32.toNatClampNeg (hi q142 226 49)) (hi q142 229 (Int32.toNatClampNeg (hi q142 226 11)))) 226 49) + 1))).bind (fun q146 => W_X12_expression n 12 q146 l1 0)) else none) else none))) else ((F_X12_comesOut n q139.2 1).bind (fun q148 => (if ixOK (hi q148 226 11) 403 = true then (if ixOK (hi q148 226 49) 64 = true then ((F_X12_goesOn n (wrI (wrI q148 259 (Int32.toNatClampNeg (hi q148 226 49)) (hi q148 229 (Int32.toNatClampNeg (hi q148 226 11)))) 226 49 ((hi (wrI q148 259 (Int32.toNatClampNeg (hi q148 226 49)) (hi q148 229 (Int32.toNatClampNeg (hi q148 226 11)))) 226 49) + 1))).bind (fun q152 => W_X12_expression n 12 q152 l1 0)) else none) else none)))))) else ((F_X12_comesOut n q130.2 1).bind (fun q133 => (if ixOK (hi q133 226 11) 403 = true then (if ixOK (hi q133 226 49) 64 = true then ((F_X12_goesOn n (wrI (wrI q133 259 (Int32.toNatClampNeg (hi q133 226 49)) (hi q133 229 (Int32.toNatClampNeg (hi q133 226 11)))) 226 49 ((hi (wrI q133 259 (Int32.toNatClampNeg (hi q133 226 49)) (hi q133 229 (Int32.toNatClampNeg (hi q133 226 11)))) 226 49) + 1))).bind (fun q137 => W_X12_expression n 12 q137 l1 0)) else none) else none))))))) else (if (1 : Int32) = 0 then (if ((hi q126.2 226 12) : Int32) ≤ (l1 : Int32) then ((F_X12_comesOut n q126.2 0).bind (fun q187 => some q187)) else ((F_X12_fail n q126.2 1).bind (fun q189 => ((F_X12_comesOut n q189 0).bind (fun q191 => some q191))))) else ((F_X12_is n q126.2 10).bind (fun q162 => (if (q162.1 : Int32) = 0 then ((F_X12_is n q162.2 15).bind (fun q171 => (if (q171.1 : Int32) = 0 then ((F_X12_comesOut n q171.2 0).bind (fun q174 => (if ixOK (hi q174 226 11) 403 = true then (if ixOK (hi q174 226 49) 64 = true then ((F_X12_goesOn n (wrI (wrI q174 259 (Int32.toNatClampNeg (hi q174 226 49)) (hi q174 229 (Int32.toNatClampNeg (hi q174 226 11)))) 226 49 ((hi (wrI q174 259 (Int32.toNatClampNeg (hi q174 226 49)) (hi q174 229 (Int32.toNatClampNeg (hi q174 226 11)))) 226 49) + 1))).bind (fun q178 => W_X12_expression n 12 q178 l1 1)) else none) else none))) else ((F_X12_comesOut n q171.2 1).bind (fun q180 => (if ixOK (hi q180 226 11) 403 = true then (if ixOK (hi q180 226 49) 64 = true then ((F_X12_goesOn n (wrI (wrI q180 259 (Int32.toNatClampNeg (hi q180 226 49)) (hi q180 229 (Int32.toNatClampNeg (hi q180 226 11)))) 226 49 ((hi (wrI q180 259 (Int32.toNatClampNeg (hi q180 226 49)) (hi q180 229 (Int32.toNatClampNeg (hi q180 226 11)))) 226 49) + 1))).bind (fun q184 => W_X12_expression n 12 q184 l1 1)) else none) else none)))))) else ((F_X12_comesOut n q162.2 1).bind (fun q165 => (if ixOK (hi q165 226 11) 403 = true then (if ixOK (hi q165 226 49) 64 = true then ((F_X12_goesOn n (wrI (wrI q165 259 (Int32.toNatClampNeg (hi q165 226 49)) (hi q165 229 (Int32.toNatClampNeg (hi q165 226 11)))) 226 49 ((hi (wrI q165 259 (Int32.toNatClampNeg (hi q165 226 49)) (hi q165 229 (Int32.toNatClampNeg (hi q165 226 11)))) 226 49) + 1))).bind (fun q169 => W_X12_expression n 12 q169 l1 1)) else none) else none)))))))))) else (if (1 : Int32) = 0 then (if ((hi q91.2 226 12) : Int32) ≤ (l1 : Int32) then ((F_X12_comesOut n q91.2 0).bind (fun q120 => some q120)) else ((F_X12_fail n q91.2 1).bind (fun q122 => ((F_X12_comesOut n q122 0).bind (fun q124 => some q124))))) else ((F_X12_is n q91.2 10).bind (fun q95 => (if (q95.1 : Int32) = 0 then ((F_X12_is n q95.2 15).bind (fun q104 => (if (q104.1 : Int32) = 0 then ((F_X12_comesOut n q104.2 0).bind (fun q107 => (if ixOK (hi q107 226 11) 403 = true then (if ixOK (hi q107 226 49) 64 = true then ((F_X12_goesOn n (wrI (wrI q107 259 (Int32.toNatClampNeg (hi q107 226 49)) (hi q107 229 (Int32.toNatClampNeg (hi q107 226 11)))) 226 49 ((hi (wrI q107 259 (Int32.toNatClampNeg (hi q107 226 49)) (hi q107 229 (Int32.toNatClampNeg (hi q107 226 11)))) 226 49) + 1))).bind (fun q111 => W_X12_expression n 12 q111 l1 1)) else none) else none))) else ((F_X12_comesOut n q104.2 1).bind (fun q113 => (if ixOK (hi q113 226 11) 403 = true then (if ixOK (hi q113 226 49) 64 = true then ((F_X12_goesOn n (wrI (wrI q113 259 (Int32.toNatClampNeg (hi q113 226 49)) (hi q113 229 (Int32.toNatClampNeg (hi q113 226 11)))) 226 49 ((hi (wrI q113 259 (Int32.toNatClampNeg (hi q113 226 49)) (hi q113 229 (Int32.toNatClampNeg (hi q113 226 11)))) 226 49) + 1))).bind (fun q117 => W_X12_expression n 12 q117 l1 1)) else none) else none)))))) else ((F_X12_comesOut n q95.2 1).bind (fun q98 => (if ixOK (hi q98 226 11) 403 = true then (if ixOK (hi q98 226 49) 64 = true then ((F_X12_goesOn n (wrI (wrI q98 259 (Int32.toNatClampNeg (hi q98 226 49)) (hi q98 229 (Int32.toNatClampNeg (hi q98 226 11)))) 226 49 ((hi (wrI q98 259 (Int32.toNatClampNeg (hi q98 226 49)) (hi q98 229 (Int32.toNatClampNeg (hi q98 226 11)))) 226 49) + 1))).bind (fun q102 => W_X12_expression n 12 q102 l1 1)) else none) else none)))))))))) else (if (1 : Int32) = 0 then (if ((hi q56.2 226 12) : Int32) ≤ (l1 : Int32) then ((F_X12_comesOut n q56.2 0).bind (fun q85 => some q85)) else ((F_X12_fail n q56.2 1).bind (fun q87 => ((F_X12_comesOut n q87 0).bind (fun q89 => some q89))))) else ((F_X12_is n q56.2 10).bind (fun q60 => (if (q60.1 : Int32) = 0 then ((F_X12_is n q60.2 15).bind (fun q69 => (if (q69.1 : Int32) = 0 then ((F_X12_comesOut n q69.2 0).bind (fun q72 => (if ixOK (hi q72 226 11) 403 = true then (if ixOK (hi q72 226 49) 64 = true then ((F_X12_goesOn n (wrI (wrI q72 259 (Int32.toNatClampNeg (hi q72 226 49)) (hi q72 229 (Int32.toNatClampNeg (hi q72 226 11)))) 226 49 ((hi (wrI q72 259 (Int32.toNatClampNeg (hi q72 226 49)) (hi q72 229 (Int32.toNatClampNeg (hi q72 226 11)))) 226 49) + 1))).bind (fun q76 => W_X12_expression n 12 q76 l1 1)) else none) else none))) else ((F_X12_comesOut n q69.2 1).bind (fun q78 => (if ixOK (hi q78 226 11) 403 = true then (if ixOK (hi q78 226 49) 64 = true then ((F_X12_goesOn n (wrI (wrI q78 259 (Int32.toNatClampNeg (hi q78 226 49)) (hi q78 229 (Int32.toNatClampNeg (hi q78 226 11)))) 226 49 ((hi (wrI q78 259 (Int32.toNatClampNeg (hi q78 226 49)) (hi q78 229 (Int32.toNatClampNeg (hi q78 226 11)))) 226 49) + 1))).bind (fun q82 => W_X12_expression n 12 q82 l1 1)) else none) else none)))))) else ((F_X12_comesOut n q60.2 1).bind (fun q63 => (if ixOK (hi q63 226 11) 403 = true then (if ixOK (hi q63 226 49) 64 = true then ((F_X12_goesOn n (wrI (wrI q63 259 (Int32.toNatClampNeg (hi q63 226 49)) (hi q63 229 (Int32.toNatClampNeg (hi q63 226 11)))) 226 49 ((hi (wrI q63 259 (Int32.toNatClampNeg (hi q63 226 49)) (hi q63 229 (Int32.toNatClampNeg (hi q63 226 11)))) 226 49) + 1))).bind (fun q67 => W_X12_expression n 12 q67 l1 1)) else none) else none)))))))))) else (if (1 : Int32) = 0 then (if ((hi q21.2 226 12) : Int32) ≤ (l1 : Int32) then ((F_X12_comesOut n q21.2 0).bind (fun q50 => some q50)) else ((F_X12_fail n q21.2 1).bind (fun q52 => ((F_X12_comesOut n q52 0).bind (fun q54 => some q54))))) else ((F_X12_is n q21.2 10).bind (fun q25 => (if (q25.1 : Int32) = 0 then ((F_X12_is n q25.2 15).bind (fun q34 => (if (q34.1 : Int32) = 0 then ((F_X12_comesOut n q34.2 0).bind (fun q37 => (if ixOK (hi q37 226 11) 403 = true then (if ixOK (hi q37 226 49) 64 = true then ((F_X12_goesOn n (wrI (wrI q37 259 (Int32.toNatClampNeg (hi q37 226 49)) (hi q37 229 (Int32.toNatClampNeg (hi q37 226 11)))) 226 49 ((hi (wrI q37 259 (Int32.toNatClampNeg (hi q37 226 49)) (hi q37 229 (Int32.toNatClampNeg (hi q37 226 11)))) 226 49) + 1))).bind (fun q41 => W_X12_expression n 12 q41 l1 1)) else none) else none))) else ((F_X12_comesOut n q34.2 1).bind (fun q43 => (if ixOK (hi q43 226 11) 403 = true then (if ixOK (hi q43 226 49) 64 = true then ((F_X12_goesOn n (wrI (wrI q43 259 (Int32.toNatClampNeg (hi q43 226 49)) (hi q43 229 (Int32.toNatClampNeg (hi q43 226 11)))) 226 49 ((hi (wrI q43 259 (Int32.toNatClampNeg (hi q43 226 49)) (hi q43 229 (Int32.toNatClampNeg (hi q43 226 11)))) 226 49) + 1))).bind (fun q47 => W_X12_expression n 12 q47 l1 1)) else none) else none)))))) else ((F_X12_comesOut n q25.2 1).bind (fun q28 => (if ixOK (hi q28 226 11) 403 = true then (if ixOK (hi q28 226 49) 64 = true then ((F_X12_goesOn n (wrI (wrI q28 259 (Int32.toNatClampNeg (hi q28 226 49)) (hi q28 229 (Int32.toNatClampNeg (hi q28 226 11)))) 226 49 ((hi (wrI q28 259 (Int32.toNatClampNeg (hi q28 226 49)) (hi q28 229 (Int32.toNatClampNeg (hi q28 226 11)))) 226 49) + 1))).bind (fun q32 => W_X12_expression n 12 q32 l1 1)) else none) else none)))))))))) (fun q => exR hE c0 q) := by
        have lf (fz : (hi h 226 13).toInt = 0) (kd : (hi h 229 (Int32.toNatClampNeg (hi h 226 11))).toInt = 8 ∨ (hi h 229 (Int32.toNatClampNeg (hi h 226 11))).toInt = 9 ∨ (hi h 229 (Int32.toNatClampNeg (hi h 226 11))).toInt = 10 ∨ (hi h 229 (Int32.toNatClampNeg (hi h 226 11))).toInt = 15) : Ok (if (1 : Int32) = 0 then (if ((hi h 226 12) : Int32) ≤ (l1 : Int32) then ((F_X12_comesOut n h 0).bind (fun q155 => some q155)) else ((F_X12_fail n h 1).bind (fun q157 => ((F_X12_comesOut n q157 0).bind (fun q159 => some q159))))) else ((F_X12_is n h 10).bind (fun q162 => (if (q162.1 : Int32) = 0 then ((F_X12_is n q162.2 15).bind (fun q171 => (if (q171.1 : Int32) = 0 then ((F_X12_comesOut n q171.2 0).bind (fun q174 => (if ixOK (hi q174 226 11) 403 = true then (if ixOK (hi q174 226 49) 64 = true then ((F_X12_goesOn n (wrI (wrI q174 259 (Int32.toNatClampNeg (hi q174 226 49)) (hi q174 229 (Int32.toNatClampNeg (hi q174 226 11)))) 226 49 ((hi (wrI q174 259 (Int32.toNatClampNeg (hi q174 226 49)) (hi q174 229 (Int32.toNatClampNeg (hi q174 226 11)))) 226 49) + 1))).bind (fun q178 => W_X12_expression n 12 q178 l1 1)) else none) else none))) else ((F_X12_comesOut n q171.2 1).bind (fun q180 => (if ixOK (hi q180 226 11) 403 = true then (if ixOK (hi q180 226 49) 64 = true then ((F_X12_goesOn n (wrI (wrI q180 259 (Int32.toNatClampNeg (hi q180 226 49)) (hi q180 229 (Int32.toNatClampNeg (hi q180 226 11)))) 226 49 ((hi (wrI q180 259 (Int32.toNatClampNeg (hi q180 226 49)) (hi q180 229 (Int32.toNatClampNeg (hi q180 226 11)))) 226 49) + 1))).bind (fun q184 => W_X12_expression n 12 q184 l1 1)) else none) else none)))))) else ((F_X12_comesOut n q162.2 1).bind (fun q165 => (if ixOK (hi q165 226 11) 403 = true then (if ixOK (hi q165 226 49) 64 = true then ((F_X12_goesOn n (wrI (wrI q165 259 (Int32.toNatClampNeg (hi q165 226 49)) (hi q165 229 (Int32.toNatClampNeg (hi q165 226 11)))) 226 49 ((hi (wrI q165 259 (Int32.toNatClampNeg (hi q165 226 49)) (hi q165 229 (Int32.toNatClampNeg (hi q165 226 11)))) 226 49) + 1))).bind (fun q169 => W_X12_expression n 12 q169 l1 1)) else none) else none))))))) (fun q => exR hE c0 q) := Ok.neg (by decide) (TM fz kd)
        have f8 := lit_8
        have f9 := lit_9
        have f10 := lit_10
        have f15 : (15 : Int32).toInt = 15 := by decide
        refine Ok.bind (sr_is t) (fun q1 hq1 => ?_)
        obtain ⟨i1, j1⟩ := hq1
        rw [i1]
        refine Ok.eq (fun d1 => ?_) (fun d1 => lf (j1.2 (by omega)).1 (by have := (j1.2 (by omega)).2; omega))
        refine Ok.bind (sr_is t) (fun q2 hq2 => ?_)
        obtain ⟨i2, j2⟩ := hq2
        rw [i2]
        refine Ok.eq (fun d2 => ?_) (fun d2 => lf (j2.2 (by omega)).1 (by have := (j2.2 (by omega)).2; omega))
        refine Ok.bind (sr_is t) (fun q3 hq3 => ?_)
        obtain ⟨i3, j3⟩ := hq3
        rw [i3]
        refine Ok.eq (fun d3 => ?_) (fun d3 => lf (j3.2 (by omega)).1 (by have := (j3.2 (by omega)).2; omega))
        refine Ok.bind (sr_is t) (fun q4 hq4 => ?_)
        obtain ⟨i4, j4⟩ := hq4
        rw [i4]
        refine Ok.eq (fun d4 => ?_) (fun d4 => lf (j4.2 (by omega)).1 (by have := (j4.2 (by omega)).2; omega))
        exact Ok.pos rfl TE
      rw [u_X12_expression]
      refine Ok.neg (by decide) ?_
      refine Ok.neg (by decide) ?_
      refine Ok.pos rfl ?_
      refine Ok.bind (sr_is t) (fun q18 hq18 => ?_)
      obtain ⟨e18, y18⟩ := hq18
      rw [e18]
      refine Ok.eq (fun _ => CH) (fun c1 => ?_)
      have c2 := y18.2 (by omega)
      have s1 := s1 c2.1
      refine Ok.le (fun _ => CH) (fun c3 => ?_)
      refine Ok.bind (outs h e x 0) (fun q hq => ?_)
      obtain ⟨c', n', k', P', a1, a2, a3, a4, a5, a6, a7⟩ := hq
      have k0 := a3 f0
      subst k0
      obtain ⟨k1, e2⟩ := pop_o a1 (by omega)
      generalize eg : wrI (wrI q 226 49 (hi q 226 49 - 1)) 226 12 (hi (wrI q 226 49 (hi q 226 49 - 1)) 226 12 - 1) = g at e2
      have g11 : hi g 226 11 = hi h 226 11 := by
        rw [← eg, hi_wrI, if_neg (by decide), hi_wrI, if_neg (by decide)]
        exact a5
      have g13 : hi g 226 13 = hi h 226 13 := by
        rw [← eg, hi_wrI, if_neg (by decide), hi_wrI, if_neg (by decide)]
        exact a6
      refine Ok.bind (sr_goesOn e2.2.1) (fun q6 hq6 => ?_)
      have m1 := hq6.1.2.2.2.1
      have h2 := hq6.2
      rw [g11] at m1 h2
      rw [g13] at h2
      have x3 : eA hE c0 g c' P' := a2.eq (g11.trans a5.symm) (g13.trans a6.symm) (Nat.le_refl _)
      exact ih.2.2 q6 c' (n' - 1) k1 (O - 1) P' l2 l (e2.p hq6.1) (x3.p hq6.1) (fun _ => by have := o c2.1; omega) (fun z => by have := p c2.1; omega) ⟨fun z => by have := (h2 z).2; omega, by omega⟩
end EL
