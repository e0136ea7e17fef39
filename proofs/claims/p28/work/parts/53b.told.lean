/-! WHAT A TEXT TELLS: the class, a statement each -/
/-- one step on, as long as nothing is wrong -/
theorem Pc.zt {α : Type} {o : Option α} {F : α → Hp} {A : α → Prop} {f : α → Option Hp} {P : Hp → Prop} (h1 : Pc o (fun x => ZC (F x) → A x)) (h2 : ∀ x, ZC (F x) → A x → Pc (f x) (fun q => ZC q → P q)) (h3 : ∀ x, Pc (f x) (fun q => zc (F x) q)) : Pc (o.bind f) (fun q => ZC q → P q) := by
  refine Pc.bind h1 (fun x a => ?_)
  by_cases z : ZC (F x)
  · exact h2 x z (a z)
  · exact (h3 x).mono (fun q m y => absurd (m.1 y) z)
/-- where the class stands -/
def cX (N : Nat) (kd pl vl : Nat → Int) (t : Nat) (h : Hp) : Prop := CT N kd pl vl h ∧ tI2 N t ∧ cS h 0 t ∧ (hi h 2 6).toInt = 0
section XC
variable {N : Nat} {kd pl vl : Nat → Int} {t : Nat} {h : Hp} {n : Nat}
theorem zb_lay4 {x1 x2 : Int32} : Pc (F_X3_lay n h 4 x1 x2) (fun q => zc h q) := pc_lay.mono (fun q f => zc.of (f.1 2 5 (by decide)) (f.1 2 6 (by decide)))
theorem cX.w (a : cX N kd pl vl t h) {x k : Nat} {v : Int32} (m : ¬ (x = 2 ∧ (k = 4 ∨ k = 5 ∨ k = 6)) ∧ x ≠ 18 ∧ x ≠ 20 ∧ x ≠ 21) : cX N kd pl vl t (wrI h x k v) := by
  obtain ⟨a1, a2, a3, a4⟩ := a
  obtain ⟨m1, m2, m3, m4⟩ := m
  refine ⟨a1.cg ⟨fun z => by rw [hi_wrI, if_neg (by omega)], fun z => by rw [hi_wrI, if_neg (by omega)], fun z => by rw [hi_wrI, if_neg (by omega)], fun _ => rfl⟩, a2, ⟨?_, ?_⟩, ?_⟩
  · rw [hi_wrI, if_neg (by omega)]; exact a3.1
  · rw [hi_wrI, if_neg (by omega)]; exact a3.2
  · rw [hi_wrI, if_neg (by omega)]; exact a4
theorem xz_take (X : TX N kd pl vl) (a : cX N kd pl vl t h) {x1 : Int32} (k : Int) (hx : x1.toInt = k) (k2 : k ≠ 32) : Pc (F_X7_take n h x1) (fun q => ZC q.2 → cX N kd pl vl (t + 1) q.2 ∧ kd t = k ∧ frK h q.2 ∧ t < 400) := by
  refine (qz_take X a.1 a.2.1 a.2.2.1 k hx k2).mono (fun q hq z => ?_)
  obtain ⟨b1, b2, b3, b4, b5⟩ := hq z.1
  exact ⟨⟨a.1.cg b1.tk, b5, b2, by rw [b1.1 2 6 (by decide)]; exact a.2.2.2⟩, b3, b1, b4⟩
theorem xz_num (X : TX N kd pl vl) (a : cX N kd pl vl t h) {x1 x2 : Int32} {lo up : Int} (h1 : x1.toInt = lo) (h2 : x2.toInt = up) (lu : lo ≤ up) : Pc (F_X7_takeNumber n h x1 x2) (fun q => ZC q.2 → cX N kd pl vl (t + 1) q.2 ∧ kd t = 30 ∧ frV h q.2 ∧ q.1.toInt = vl t ∧ lo ≤ vl t ∧ vl t ≤ up) := by
  refine (cq_number (s := (0, t, 0, 0)) X a.1 a.2.1 ⟨a.2.2.1, fun _ => ⟨a.2.2.2, fun z => absurd rfl z⟩⟩ (x1 := x1) (x2 := x2) (by omega)).mono (fun q hq z => ?_)
  obtain ⟨b1, b2, b3, b4⟩ := hq
  rw [h1, h2] at b2 b3 b4
  have z1 : (nbQ kd pl vl lo up (0, t, 0, 0)).1 = 0 := by have := b2.1.1; have := z.1; omega
  have w1 : (nbQ kd pl vl lo up (0, t, 0, 0)).2.2.1 = 0 := by have := (b2.2 z1).1; have := z.2; omega
  have n1 := nq_0 z1
  have n2 := nq_w z1 w1
  have T' := nb_in (s := (0, t, 0, 0)) X a.2.1 (lo := lo) (up := up)
  rw [n1.2.2] at T'
  have S' := b2.1
  rw [z1, n1.2.2] at S'
  exact ⟨⟨a.1.cg b1.tk, T', S', z.2⟩, n1.2.1, b1, b4 z1 n2.2.1 n2.2.2, n2.2.1, n2.2.2⟩
theorem xz_spot (X : TX N kd pl vl) (a : cX N kd pl vl t h) : Pc (F_X7_takeSpot n h) (fun q => ZC q.2 → cX N kd pl vl (t + 2) q.2 ∧ frV h q.2 ∧ q.1.toInt = vl t + 5 * vl (t + 1) ∧ sp5 (vl t, vl (t + 1))) := by
  have f5 := lit_5
  unfold F_X7_takeSpot
  refine Pc.bind (xz_num X a lit_0 lit_4 (by decide)) (fun q1 h1 => ?_)
  by_cases z1 : ZC q1.2
  · obtain ⟨b1, b2, b3, b4, b5, b6⟩ := h1 z1
    refine Pc.bind (xz_num X b1 lit_0 lit_4 (by decide)) (fun q3 h3 => Pc.ret (fun z => ?_))
    obtain ⟨c1, c2, c3, c4, c5, c6⟩ := h3 z
    have m := mlT 5 q3.1 5 f5 (by omega) (by omega)
    have ad := adT q1.1 (5 * q3.1) (by omega) (by omega)
    refine ⟨c1, b3.tr c3, ?_, ⟨b5, b6⟩, c5, c6⟩
    show (q1.1 + 5 * q3.1).toInt = _
    omega
  · exact Pc.bind zb_X7_takeNumber (fun q3 m => Pc.ret (fun z => absurd (m.1 z) z1))
/-- the cells of what is told -/
theorem cD.mk' {T : TT} {q : Hp} (a : ctW T.lw q) (b : ctT T.tn q) (c : ctG T.go q) (d : ctR T.ro q) (e : ctN T.ws q) (f : ∃ S, ctL T.la S q ∧ S ≤ 4 + t) (v : VT T) : cD T t q := ⟨⟨a, b, c, d, e⟩, f, v⟩
/-- a statement told: the class -/
def cTell (N : Nat) (kd pl vl : Nat → Int) (T : TT) (t : Nat) (h q : Hp) : Prop := ∃ T' t', STP kd vl T t T' t' ∧ t < t' ∧ cX N kd pl vl t' q ∧ cD T' t' q ∧ ∀ x k, x = 10 ∨ x = 13 → hi q x k = hi h x k
theorem frV.at {h q : Hp} (f : frV h q) (a k : Nat) (m : ¬ (a = 2 ∧ (k = 4 ∨ k = 5 ∨ k = 6 ∨ k = 7))) : hi q a k = hi h a k := f.1 a k m
theorem ct_lawn (X : TX N kd pl vl) (a : cX N kd pl vl t h) {T : TT} (d : cD T t h) (k9 : kd t = 9) : Pc ((F_X7_readLawn n h).bind (fun q2 => ((F_X7_take n q2 59).bind (fun q4 => some q4.2)))) (fun q => ZC q → cTell N kd pl vl T t h q) := by
  unfold F_X7_readLawn
  rw [Option.bind_assoc]
  refine Pc.zt (xz_take X a 9 lit_9 (by decide)) (fun q1 _ b => ?_) (fun q => ?_)
  rotate_left
  · rw [Option.bind_assoc]
    refine Pc.zb zb_X7_takeNumber (fun _ => ?_)
    rw [Option.bind_assoc]
    refine Pc.zb zb_X7_takeNumber (fun _ => ?_)
    rw [Option.bind_assoc]
    (repeat (first | refine Pc.ite (fun _ => ?_) (fun _ => ?_) | exact Pc.no | refine Pc.zb zb_X7_take (fun _ => ?_) | refine Pc.zb zb_X7_takeNumber (fun _ => ?_) | refine Pc.zb zb_X7_takeSpot (fun _ => ?_) | refine Pc.zb zb_X7_readLaw (fun _ => ?_) | refine Pc.zb zb_lay4 (fun _ => ?_) | refine Pc.zb (zb_X7_take.mono (fun _ m => (((zc.rf _).w (by omega)).tr m))) (fun _ => ?_) | refine Pc.zb (zb_X7_takeSpot.mono (fun _ m => (((zc.rf _).w (by omega)).tr m))) (fun _ => ?_) | exact Pc.ret (zc.rf _) | exact Pc.ret ((zc.rf _).w (by omega)) | exact Pc.ret (((zc.rf _).w (by omega)).w (by omega)) | refine Pc.zb (F := fun z => z) (Pc.ret (zc.rf _)) (fun _ => ?_)))
  obtain ⟨b1, b2, b3, b4⟩ := b
  rw [Option.bind_assoc]
  refine Pc.zt (xz_num X b1 lit_2 lit_5 (by decide)) (fun q3 _ c => ?_) (fun q => ?_)
  rotate_left
  · rw [Option.bind_assoc]
    refine Pc.zb zb_X7_takeNumber (fun _ => ?_)
    rw [Option.bind_assoc]
    (repeat (first | refine Pc.ite (fun _ => ?_) (fun _ => ?_) | exact Pc.no | refine Pc.zb zb_X7_take (fun _ => ?_) | refine Pc.zb zb_X7_takeNumber (fun _ => ?_) | refine Pc.zb zb_X7_takeSpot (fun _ => ?_) | refine Pc.zb zb_X7_readLaw (fun _ => ?_) | refine Pc.zb zb_lay4 (fun _ => ?_) | refine Pc.zb (zb_X7_take.mono (fun _ m => (((zc.rf _).w (by omega)).tr m))) (fun _ => ?_) | refine Pc.zb (zb_X7_takeSpot.mono (fun _ m => (((zc.rf _).w (by omega)).tr m))) (fun _ => ?_) | exact Pc.ret (zc.rf _) | exact Pc.ret ((zc.rf _).w (by omega)) | exact Pc.ret (((zc.rf _).w (by omega)).w (by omega)) | refine Pc.zb (F := fun z => z) (Pc.ret (zc.rf _)) (fun _ => ?_)))
  obtain ⟨c1, c2, c3, c4, c5, c6⟩ := c
  rw [Option.bind_assoc]
  refine Pc.zt (xz_num X c1 lit_2 lit_5 (by decide)) (fun q5 _ e => ?_) (fun q => ?_)
  rotate_left
  · rw [Option.bind_assoc]
    (repeat (first | refine Pc.ite (fun _ => ?_) (fun _ => ?_) | exact Pc.no | refine Pc.zb zb_X7_take (fun _ => ?_) | refine Pc.zb zb_X7_takeNumber (fun _ => ?_) | refine Pc.zb zb_X7_takeSpot (fun _ => ?_) | refine Pc.zb zb_X7_readLaw (fun _ => ?_) | refine Pc.zb zb_lay4 (fun _ => ?_) | refine Pc.zb (zb_X7_take.mono (fun _ m => (((zc.rf _).w (by omega)).tr m))) (fun _ => ?_) | refine Pc.zb (zb_X7_takeSpot.mono (fun _ m => (((zc.rf _).w (by omega)).tr m))) (fun _ => ?_) | exact Pc.ret (zc.rf _) | exact Pc.ret ((zc.rf _).w (by omega)) | exact Pc.ret (((zc.rf _).w (by omega)).w (by omega)) | refine Pc.zb (F := fun z => z) (Pc.ret (zc.rf _)) (fun _ => ?_)))
  obtain ⟨e1, e2, e3, e4, e5, e6⟩ := e
  have e1 : cX N kd pl vl (t + 3) q5.2 := e1
  have e4 : q5.1.toInt = vl (t + 2) := e4
  have e5 : 2 ≤ vl (t + 2) := e5
  have e6 : vl (t + 2) ≤ 5 := e6
  rw [Option.bind_assoc]
  refine Pc.bind (fld_lay (w := (vl (t + 1)).toNat) (g := (vl (t + 2)).toNat) (by omega) (by omega) (by omega) (by omega)) (fun q7 h7 => ?_)
  obtain ⟨g1, g2⟩ := h7
  have r7 (x k : Nat) (m : x ≠ 4) : hi q7 x k = hi q5.2 x k := g2.1 x k m
  have x7 : cX N kd pl vl (t + 3) q7 := ⟨e1.1.cg ⟨fun k => r7 18 k (by decide), fun k => r7 20 k (by decide), fun k => r7 21 k (by decide), fun k => g2.2 22 k (fun (z : (22 : Nat) = 4) => absurd z (by decide))⟩, e1.2.1, ⟨by rw [r7 2 5 (by decide)]; exact e1.2.2.1.1, by rw [r7 2 4 (by decide)]; exact e1.2.2.1.2⟩, by rw [r7 2 6 (by decide)]; exact e1.2.2.2⟩
  show Pc ((F_X7_take n q7 59).bind (fun q4 => some q4.2)) _
  refine Pc.bind (xz_take X x7 59 lit_59 (by decide)) (fun q4 h4 => Pc.ret (fun z => ?_))
  obtain ⟨i1, i2, i3, i4⟩ := h4 z
  have r (x k : Nat) (m : x ≠ 4) (m2 : ¬ (x = 2 ∧ (k = 4 ∨ k = 5 ∨ k = 6 ∨ k = 7))) : hi q4.2 x k = hi h x k := by
    rw [i3.1 x k (by omega), r7 x k m, e3.at x k m2, c3.at x k m2, b3.1 x k (by omega)]
  obtain ⟨⟨d1, d2, d3, d4, d5⟩, ⟨S, d6, d7⟩, d8⟩ := d
  refine ⟨TT.mk (vl (t + 1), vl (t + 2)) T.tn T.go T.ro T.ws T.la, t + 4, Or.inl ⟨k9, rfl, rfl⟩, by omega, i1, cD.mk' ?_ (d2.cg (r 2 13 (by decide) (by decide)) (fun k => r 16 k (by decide) (by omega)) (fun k => r 17 k (by decide) (by omega))) (d3.cg (r 3 2 (by decide) (by decide)) (fun k => r 15 k (by decide) (by omega))) (d4.cg (r 2 14 (by decide) (by decide)) (r 2 12 (by decide) (by decide))) (d5.cg (r 3 3 (by decide) (by decide)) (r 3 4 (by decide) (by decide))) ⟨S, d6.cg (r 5 3 (by decide) (by decide)) (fun k => r 6 k (by decide) (by omega)) (fun k => r 7 k (by decide) (by omega)), by omega⟩ ⟨⟨⟨c5, c6⟩, e5, e6⟩, d8.2⟩, fun x j m => r x j (by omega) (by omega)⟩
  show FLD q4.2 4 (vl (t + 1)).toNat (vl (t + 2)).toNat
  unfold FLD at g1 ⊢
  have i4' (k : Nat) : hi q4.2 4 k = hi q7 4 k := i3.1 4 k (by omega)
  rw [i4', i4', i4', i4']
  exact g1
theorem ct_one (X : TX N kd pl vl) (a : cX N kd pl vl t h) {T : TT} (d : cD T t h) {x1 lo up : Int32} (k : Int) (hx : x1.toInt = k) (k2 : k ≠ 32) {l u : Int} (hl : lo.toInt = l) (hu : up.toInt = u) (lu : l ≤ u) {b : Nat} (hb : (k = 17 ∧ b = 3 ∧ l = 0 ∧ u = 100) ∨ (k = 18 ∧ b = 4 ∧ l = 0 ∧ u = 9999)) : Pc ((F_X7_take n h x1).bind (fun q74 => ((F_X7_takeNumber n q74.2 lo up).bind (fun q76 => ((F_X7_take n (wrI q76.2 3 b q76.1) 59).bind (fun q78 => some q78.2)))))) (fun q => ZC q → cTell N kd pl vl T t h q) := by
  refine Pc.zt (xz_take X a k hx k2) (fun q1 _ b => ?_) (fun q => ?_)
  rotate_left
  · (repeat (first | refine Pc.ite (fun _ => ?_) (fun _ => ?_) | exact Pc.no | refine Pc.zb zb_X7_take (fun _ => ?_) | refine Pc.zb zb_X7_takeNumber (fun _ => ?_) | refine Pc.zb zb_X7_takeSpot (fun _ => ?_) | refine Pc.zb zb_X7_readLaw (fun _ => ?_) | refine Pc.zb zb_lay4 (fun _ => ?_) | refine Pc.zb (zb_X7_take.mono (fun _ m => (((zc.rf _).w (by omega)).tr m))) (fun _ => ?_) | refine Pc.zb (zb_X7_takeSpot.mono (fun _ m => (((zc.rf _).w (by omega)).tr m))) (fun _ => ?_) | exact Pc.ret (zc.rf _) | exact Pc.ret ((zc.rf _).w (by omega)) | exact Pc.ret (((zc.rf _).w (by omega)).w (by omega)) | refine Pc.zb (F := fun z => z) (Pc.ret (zc.rf _)) (fun _ => ?_)))
  obtain ⟨b1, b2, b3, b4⟩ := b
  refine Pc.zt (xz_num X b1 hl hu lu) (fun q3 _ c => ?_) (fun q => ?_)
  rotate_left
  · (repeat (first | refine Pc.ite (fun _ => ?_) (fun _ => ?_) | exact Pc.no | refine Pc.zb zb_X7_take (fun _ => ?_) | refine Pc.zb zb_X7_takeNumber (fun _ => ?_) | refine Pc.zb zb_X7_takeSpot (fun _ => ?_) | refine Pc.zb zb_X7_readLaw (fun _ => ?_) | refine Pc.zb zb_lay4 (fun _ => ?_) | refine Pc.zb (zb_X7_take.mono (fun _ m => (((zc.rf _).w (by omega)).tr m))) (fun _ => ?_) | refine Pc.zb (zb_X7_takeSpot.mono (fun _ m => (((zc.rf _).w (by omega)).tr m))) (fun _ => ?_) | exact Pc.ret (zc.rf _) | exact Pc.ret ((zc.rf _).w (by omega)) | exact Pc.ret (((zc.rf _).w (by omega)).w (by omega)) | refine Pc.zb (F := fun z => z) (Pc.ret (zc.rf _)) (fun _ => ?_)))
  obtain ⟨c1, c2, c3, c4, c5, c6⟩ := c
  refine Pc.bind (xz_take X (c1.w (x := 3) (by omega)) 59 lit_59 (by decide)) (fun q4 h4 => Pc.ret (fun z => ?_))
  obtain ⟨i1, i2, i3, i4⟩ := h4 z
  have r (x j : Nat) (m : ¬ (x = 3 ∧ j = b)) (m2 : ¬ (x = 2 ∧ (j = 4 ∨ j = 5 ∨ j = 6 ∨ j = 7))) : hi q4.2 x j = hi h x j := by
    rw [i3.1 x j (by omega), hi_wrI, if_neg m, c3.at x j m2, b3.1 x j (by omega)]
  have rb : hi q4.2 3 b = q3.1 := by rw [i3.1 3 b (by omega), hi_wrI, if_pos ⟨rfl, rfl⟩]
  obtain ⟨⟨d1, d2, d3, d4, d5⟩, ⟨S, d6, d7⟩, d8⟩ := d
  have e1 := d1.cg (q := q4.2) (fun k => r 4 k (by omega) (by omega))
  have e2 := d2.cg (q := q4.2) (r 2 13 (by omega) (by omega)) (fun k => r 16 k (by omega) (by omega)) (fun k => r 17 k (by omega) (by omega))
  have e3 := d3.cg (q := q4.2) (r 3 2 (by omega) (by omega)) (fun k => r 15 k (by omega) (by omega))
  have e4 := d4.cg (q := q4.2) (r 2 14 (by omega) (by omega)) (r 2 12 (by omega) (by omega))
  have e6 := d6.cg (q := q4.2) (r 5 3 (by omega) (by omega)) (fun k => r 6 k (by omega) (by omega)) (fun k => r 7 k (by omega) (by omega))
  obtain ⟨v1, v2, v3, v4, v5, v6⟩ := d8
  rcases hb with ⟨y1, y2, y3, y4⟩ | ⟨y1, y2, y3, y4⟩
  · subst y2
    refine ⟨TT.mk T.lw T.tn T.go T.ro (vl (t + 1), T.ws.2) T.la, t + 3, Or.inr (Or.inr (Or.inr (Or.inr (Or.inl ⟨by omega, rfl, rfl⟩)))), by omega, i1, cD.mk' e1 e2 e3 e4 ⟨by rw [rb]; exact c4, by rw [r 3 4 (by omega) (by omega)]; exact d5.2⟩ ⟨S, e6, by omega⟩ ⟨v1, v2, v3, v4, ⟨⟨?_, ?_⟩, v5.2⟩, v6⟩, fun x j m => r x j (by omega) (by omega)⟩
    · show 0 ≤ vl (t + 1); omega
    · show vl (t + 1) ≤ 100; omega
  · subst y2
    refine ⟨TT.mk T.lw T.tn T.go T.ro (T.ws.1, vl (t + 1)) T.la, t + 3, Or.inr (Or.inr (Or.inr (Or.inr (Or.inr (Or.inl ⟨by omega, rfl, rfl⟩))))), by omega, i1, cD.mk' e1 e2 e3 e4 ⟨by rw [r 3 3 (by omega) (by omega)]; exact d5.1, by rw [rb]; exact c4⟩ ⟨S, e6, by omega⟩ ⟨v1, v2, v3, v4, ⟨v5.1, ?_, ?_⟩, v6⟩, fun x j m => r x j (by omega) (by omega)⟩
    · show 0 ≤ vl (t + 1); omega
    · show vl (t + 1) ≤ 9999; omega
theorem ct_rope (X : TX N kd pl vl) (a : cX N kd pl vl t h) {T : TT} (d : cD T t h) (k12 : kd t = 12) : Pc ((F_X7_readRope n h).bind (fun q2 => ((F_X7_take n q2 59).bind (fun q4 => some q4.2)))) (fun q => ZC q → cTell N kd pl vl T t h q) := by
  have f0 := lit_0
  have f1 := lit_1
  have f2 := lit_2
  have f8 := lit_8
  unfold F_X7_readRope
  obtain ⟨⟨d1, d2, d3, d4, d5⟩, ⟨S, d6, d7⟩, d8⟩ := d
  obtain ⟨v1, v2, v3, v4, v5, v6⟩ := d8
  have l0 := d4.1
  have ad := adT (hi h 2 14) 1 (by omega) (by omega)
  by_cases c8 : hi h 2 14 < 8
  · rw [if_pos c8]
    have c8' := Int32.lt_iff_toInt_lt.mp c8
    rw [Option.bind_assoc]
    refine Pc.zt (xz_take X (a.w (x := 2) (k := 14) (v := hi h 2 14 + 1) (by omega)) 12 lit_12 (by decide)) (fun q1 _ b => ?_) (fun q => ?_)
    rotate_left
    · rw [Option.bind_assoc]
      refine Pc.zb zb_X7_takeSpot (fun _ => ?_)
      show Pc ((F_X7_take n (wrI _ _ _ _) 59).bind (fun q4 => some q4.2)) _
      (repeat (first | refine Pc.ite (fun _ => ?_) (fun _ => ?_) | exact Pc.no | refine Pc.zb zb_X7_take (fun _ => ?_) | refine Pc.zb zb_X7_takeNumber (fun _ => ?_) | refine Pc.zb zb_X7_takeSpot (fun _ => ?_) | refine Pc.zb zb_X7_readLaw (fun _ => ?_) | refine Pc.zb zb_lay4 (fun _ => ?_) | refine Pc.zb (zb_X7_take.mono (fun _ m => (((zc.rf _).w (by omega)).tr m))) (fun _ => ?_) | refine Pc.zb (zb_X7_takeSpot.mono (fun _ m => (((zc.rf _).w (by omega)).tr m))) (fun _ => ?_) | exact Pc.ret (zc.rf _) | exact Pc.ret ((zc.rf _).w (by omega)) | exact Pc.ret (((zc.rf _).w (by omega)).w (by omega)) | refine Pc.zb (F := fun z => z) (Pc.ret (zc.rf _)) (fun _ => ?_)))
    obtain ⟨b1, b2, b3, b4⟩ := b
    rw [Option.bind_assoc]
    refine Pc.zt (xz_spot X b1) (fun q3 _ c => ?_) (fun q => ?_)
    rotate_left
    · show Pc ((F_X7_take n (wrI _ _ _ _) 59).bind (fun q4 => some q4.2)) _
      (repeat (first | refine Pc.ite (fun _ => ?_) (fun _ => ?_) | exact Pc.no | refine Pc.zb zb_X7_take (fun _ => ?_) | refine Pc.zb zb_X7_takeNumber (fun _ => ?_) | refine Pc.zb zb_X7_takeSpot (fun _ => ?_) | refine Pc.zb zb_X7_readLaw (fun _ => ?_) | refine Pc.zb zb_lay4 (fun _ => ?_) | refine Pc.zb (zb_X7_take.mono (fun _ m => (((zc.rf _).w (by omega)).tr m))) (fun _ => ?_) | refine Pc.zb (zb_X7_takeSpot.mono (fun _ m => (((zc.rf _).w (by omega)).tr m))) (fun _ => ?_) | exact Pc.ret (zc.rf _) | exact Pc.ret ((zc.rf _).w (by omega)) | exact Pc.ret (((zc.rf _).w (by omega)).w (by omega)) | refine Pc.zb (F := fun z => z) (Pc.ret (zc.rf _)) (fun _ => ?_)))
    obtain ⟨c1, c2, c3, c4⟩ := c
    show Pc ((F_X7_take n (wrI q3.2 2 12 (hi q1.2 2 12 ||| ((1 : Int32) <<< (q3.1 &&& 31)))) 59).bind (fun q4 => some q4.2)) _
    refine Pc.bind (xz_take X (c1.w (x := 2) (k := 12) (by omega)) 59 lit_59 (by decide)) (fun q4 h4 => Pc.ret (fun z => ?_))
    obtain ⟨i1, i2, i3, i4⟩ := h4 z
    have r (x j : Nat) (m : ¬ (x = 2 ∧ (j = 12 ∨ j = 14))) (m2 : ¬ (x = 2 ∧ (j = 4 ∨ j = 5 ∨ j = 6 ∨ j = 7))) : hi q4.2 x j = hi h x j := by
      rw [i3.1 x j (by omega), hi_wrI, if_neg (by omega), c2.at x j m2, b3.1 x j (by omega), hi_wrI, if_neg (by omega)]
    have r14 : hi q4.2 2 14 = hi h 2 14 + 1 := by
      rw [i3.1 2 14 (by omega), hi_wrI, if_neg (by omega), c2.at 2 14 (by omega), b3.1 2 14 (by omega), hi_wrI, if_pos ⟨rfl, rfl⟩]
    have q12 : hi q1.2 2 12 = hi h 2 12 := by rw [b3.1 2 12 (by omega), hi_wrI, if_neg (by omega)]
    have r12 : hi q4.2 2 12 = (hi h 2 12 ||| ((1 : Int32) <<< (q3.1 &&& 31))) := by
      rw [i3.1 2 12 (by omega), hi_wrI, if_pos ⟨rfl, rfl⟩, q12]
    unfold sp5 at c4
    simp only at c4
    have nx := ncT (show 0 ≤ q3.1.toInt by omega)
    have e1 := d1.cg (q := q4.2) (fun k => r 4 k (by omega) (by omega))
    have e2 := d2.cg (q := q4.2) (r 2 13 (by omega) (by omega)) (fun k => r 16 k (by omega) (by omega)) (fun k => r 17 k (by omega) (by omega))
    have e3 := d3.cg (q := q4.2) (r 3 2 (by omega) (by omega)) (fun k => r 15 k (by omega) (by omega))
    have e5 := d5.cg (q := q4.2) (r 3 3 (by omega) (by omega)) (r 3 4 (by omega) (by omega))
    have e6 := d6.cg (q := q4.2) (r 5 3 (by omega) (by omega)) (fun k => r 6 k (by omega) (by omega)) (fun k => r 7 k (by omega) (by omega))
    have ll : (T.ro ++ [(vl (t + 1), vl (t + 1 + 1))]).length = T.ro.length + 1 := by simp
    refine ⟨TT.mk T.lw T.tn T.go (T.ro ++ [(vl (t + 1), vl (t + 2))]) T.ws T.la, t + 4, Or.inr (Or.inr (Or.inr (Or.inl ⟨k12, rfl, rfl⟩))), by omega, i1, cD.mk' e1 e2 e3 ⟨?_, fun c hc => ?_⟩ e5 ⟨S, e6, by omega⟩ ⟨v1, v2, v3, ⟨?_, fun x hx => ?_⟩, v5, v6⟩, fun x j m => r x j (by omega) (by omega)⟩
    · show (hi q4.2 2 14).toInt = ((T.ro ++ [(vl (t + 1), vl (t + 1 + 1))]).length : Int)
      rw [r14, ll]; omega
    · show _ ↔ ∃ p ∈ T.ro ++ [(vl (t + 1), vl (t + 1 + 1))], p.1 + 5 * p.2 = (c : Int)
      rw [r12, bt_or, btL (by omega) (by omega) c, Bool.or_eq_true, d4.2 c hc, decide_eq_true_eq]
      constructor
      · rintro (⟨p, p1, p2⟩ | y)
        · exact ⟨p, List.mem_append_left _ p1, p2⟩
        · refine ⟨_, List.mem_append_right _ (List.mem_singleton.mpr rfl), ?_⟩
          show vl (t + 1) + 5 * vl (t + 1 + 1) = (c : Int)
          omega
      · rintro ⟨p, p1, p2⟩
        rcases List.mem_append.mp p1 with y | y
        · exact Or.inl ⟨p, y, p2⟩
        · right
          rw [List.mem_singleton.mp y] at p2
          have p2' : vl (t + 1) + 5 * vl (t + 1 + 1) = (c : Int) := p2
          omega
    · show (T.ro ++ [(vl (t + 1), vl (t + 1 + 1))]).length ≤ 8
      rw [ll]; omega
    · rcases List.mem_append.mp hx with y | y
      · exact v4.2 x y
      · rw [List.mem_singleton.mp y]; exact c4
  · rw [if_neg c8]
    rw [Option.bind_assoc]
    refine Pc.bind (pc_stop a.2.2.1) (fun q6 h6 => ?_)
    have s6 := h6.2
    rw [if_pos rfl, f2] at s6
    have z2 : ¬ zF q6 := zF.no s6 (by decide)
    have ch : Pc (((F_X7_take n (wrI q6 2 14 ((hi q6 2 14) + 1)) 12).bind (fun q8 => ((F_X7_takeSpot n q8.2).bind (fun q10 => some (wrI q10.2 2 12 ((hi q8.2 2 12) ||| ((1 : Int32) <<< (q10.1 &&& 31)))))))).bind (fun q2 => ((F_X7_take n q2 59).bind (fun q4 => some q4.2)))) (fun q => zc q6 q) := by
      rw [Option.bind_assoc]
      refine Pc.zb (zb_X7_take.mono (fun _ m => (((zc.rf _).w (by omega)).tr m))) (fun _ => ?_)
      rw [Option.bind_assoc]
      refine Pc.zb zb_X7_takeSpot (fun _ => ?_)
      show Pc ((F_X7_take n (wrI _ _ _ _) 59).bind (fun q4 => some q4.2)) _
      (repeat (first | refine Pc.ite (fun _ => ?_) (fun _ => ?_) | exact Pc.no | refine Pc.zb zb_X7_take (fun _ => ?_) | refine Pc.zb zb_X7_takeNumber (fun _ => ?_) | refine Pc.zb zb_X7_takeSpot (fun _ => ?_) | refine Pc.zb zb_X7_readLaw (fun _ => ?_) | refine Pc.zb zb_lay4 (fun _ => ?_) | refine Pc.zb (zb_X7_take.mono (fun _ m => (((zc.rf _).w (by omega)).tr m))) (fun _ => ?_) | refine Pc.zb (zb_X7_takeSpot.mono (fun _ m => (((zc.rf _).w (by omega)).tr m))) (fun _ => ?_) | exact Pc.ret (zc.rf _) | exact Pc.ret ((zc.rf _).w (by omega)) | exact Pc.ret (((zc.rf _).w (by omega)).w (by omega)) | refine Pc.zb (F := fun z => z) (Pc.ret (zc.rf _)) (fun _ => ?_)))
    exact ch.mono (fun q m z => absurd (m.2.1 z.1) z2)
/-- a tune is read -/
theorem ct_readTune (X : TX N kd pl vl) (a : cX N kd pl vl t h) (l0 : 0 ≤ (hi h 2 13).toInt) : Pc (F_X7_readTune n h) (fun q => ZC q → cX N kd pl vl (t + 5) q ∧ sp5 (vl (t + 1), vl (t + 2)) ∧ (2 ≤ vl (t + 3) ∧ vl (t + 3) ≤ 6) ∧ (0 ≤ vl (t + 4) ∧ vl (t + 4) < vl (t + 3)) ∧ (hi h 2 13).toInt < 8 ∧ hi q 2 13 = hi h 2 13 + 1 ∧ ∃ c : Nat, (c : Int) = vl (t + 1) + 5 * vl (t + 2) ∧ (hi q 16 c).toInt = vl (t + 3) ∧ (hi q 17 c).toInt = vl (t + 4) ∧ (∀ k, k ≠ c → hi q 16 k = hi h 16 k ∧ hi q 17 k = hi h 17 k) ∧ ∀ x k, ¬ (x = 2 ∧ (k = 4 ∨ k = 5 ∨ k = 6 ∨ k = 7 ∨ k = 13)) → x ≠ 16 → x ≠ 17 → hi q x k = hi h x k) := by
  have f0 := lit_0
  have f1 := lit_1
  have f2 := lit_2
  have f8 := lit_8
  have f25 := lit_25
  unfold F_X7_readTune
  refine Pc.lt (fun c8 => ?_) (fun c8 => ?_)
  · refine Pc.zt (xz_take X (a.w (x := 2) (k := 13) (v := hi h 2 13 + 1) (by omega)) 10 lit_10 (by decide)) (fun q2 _ b => ?_) (fun q => ?_)
    rotate_left
    · (repeat (first | refine Pc.ite (fun _ => ?_) (fun _ => ?_) | exact Pc.no | refine Pc.zb zb_X7_take (fun _ => ?_) | refine Pc.zb zb_X7_takeNumber (fun _ => ?_) | refine Pc.zb zb_X7_takeSpot (fun _ => ?_) | refine Pc.zb zb_X7_readLaw (fun _ => ?_) | refine Pc.zb zb_lay4 (fun _ => ?_) | refine Pc.zb (zb_X7_take.mono (fun _ m => (((zc.rf _).w (by omega)).tr m))) (fun _ => ?_) | refine Pc.zb (zb_X7_takeSpot.mono (fun _ m => (((zc.rf _).w (by omega)).tr m))) (fun _ => ?_) | exact Pc.ret (zc.rf _) | exact Pc.ret ((zc.rf _).w (by omega)) | exact Pc.ret (((zc.rf _).w (by omega)).w (by omega)) | refine Pc.zb (F := fun z => z) (Pc.ret (zc.rf _)) (fun _ => ?_)))
    obtain ⟨b1, b2, b3, b4⟩ := b
    refine Pc.zt (xz_spot X b1) (fun q4 _ c => ?_) (fun q => ?_)
    rotate_left
    · (repeat (first | refine Pc.ite (fun _ => ?_) (fun _ => ?_) | exact Pc.no | refine Pc.zb zb_X7_take (fun _ => ?_) | refine Pc.zb zb_X7_takeNumber (fun _ => ?_) | refine Pc.zb zb_X7_takeSpot (fun _ => ?_) | refine Pc.zb zb_X7_readLaw (fun _ => ?_) | refine Pc.zb zb_lay4 (fun _ => ?_) | refine Pc.zb (zb_X7_take.mono (fun _ m => (((zc.rf _).w (by omega)).tr m))) (fun _ => ?_) | refine Pc.zb (zb_X7_takeSpot.mono (fun _ m => (((zc.rf _).w (by omega)).tr m))) (fun _ => ?_) | exact Pc.ret (zc.rf _) | exact Pc.ret ((zc.rf _).w (by omega)) | exact Pc.ret (((zc.rf _).w (by omega)).w (by omega)) | refine Pc.zb (F := fun z => z) (Pc.ret (zc.rf _)) (fun _ => ?_)))
    obtain ⟨c1, c2, c3, c4⟩ := c
    refine Pc.zt (xz_num X c1 lit_2 lit_6' (by decide)) (fun q6 _ e => ?_) (fun q => ?_)
    rotate_left
    · (repeat (first | refine Pc.ite (fun _ => ?_) (fun _ => ?_) | exact Pc.no | refine Pc.zb zb_X7_take (fun _ => ?_) | refine Pc.zb zb_X7_takeNumber (fun _ => ?_) | refine Pc.zb zb_X7_takeSpot (fun _ => ?_) | refine Pc.zb zb_X7_readLaw (fun _ => ?_) | refine Pc.zb zb_lay4 (fun _ => ?_) | refine Pc.zb (zb_X7_take.mono (fun _ m => (((zc.rf _).w (by omega)).tr m))) (fun _ => ?_) | refine Pc.zb (zb_X7_takeSpot.mono (fun _ m => (((zc.rf _).w (by omega)).tr m))) (fun _ => ?_) | exact Pc.ret (zc.rf _) | exact Pc.ret ((zc.rf _).w (by omega)) | exact Pc.ret (((zc.rf _).w (by omega)).w (by omega)) | refine Pc.zb (F := fun z => z) (Pc.ret (zc.rf _)) (fun _ => ?_)))
    obtain ⟨e1, e2, e3, e4, e5, e6⟩ := e
    refine Pc.zt (xz_num X e1 lit_0 (sbV q6.1 1 e4 f1 (by omega) (by omega)) (by omega)) (fun q8 _ g => ?_) (fun q => ?_)
    rotate_left
    · (repeat (first | refine Pc.ite (fun _ => ?_) (fun _ => ?_) | exact Pc.no | refine Pc.zb zb_X7_take (fun _ => ?_) | refine Pc.zb zb_X7_takeNumber (fun _ => ?_) | refine Pc.zb zb_X7_takeSpot (fun _ => ?_) | refine Pc.zb zb_X7_readLaw (fun _ => ?_) | refine Pc.zb zb_lay4 (fun _ => ?_) | refine Pc.zb (zb_X7_take.mono (fun _ m => (((zc.rf _).w (by omega)).tr m))) (fun _ => ?_) | refine Pc.zb (zb_X7_takeSpot.mono (fun _ m => (((zc.rf _).w (by omega)).tr m))) (fun _ => ?_) | exact Pc.ret (zc.rf _) | exact Pc.ret ((zc.rf _).w (by omega)) | exact Pc.ret (((zc.rf _).w (by omega)).w (by omega)) | refine Pc.zb (F := fun z => z) (Pc.ret (zc.rf _)) (fun _ => ?_)))
    obtain ⟨g1, g2, g3, g4, g5, g6⟩ := g
    unfold sp5 at c4
    simp only at c4
    have c3 : q4.1.toInt = vl (t + 1) + 5 * vl (t + 2) := c3
    have c4 : (0 ≤ vl (t + 1) ∧ vl (t + 1) ≤ 4) ∧ 0 ≤ vl (t + 2) ∧ vl (t + 2) ≤ 4 := c4
    have e4 : q6.1.toInt = vl (t + 3) := e4
    have e5 : 2 ≤ vl (t + 3) := e5
    have e6 : vl (t + 3) ≤ 6 := e6
    have g4 : q8.1.toInt = vl (t + 4) := g4
    have g5 : 0 ≤ vl (t + 4) := g5
    have g6 : vl (t + 4) ≤ vl (t + 3) - 1 := g6
    have nx := ncT (show 0 ≤ q4.1.toInt by omega)
    refine Pc.lt (fun y => by exfalso; omega) (fun _ => Pc.le (fun y => by exfalso; omega) (fun _ => Pc.chk (fun _ => Pc.chk (fun _ => Pc.ret (fun _ => ?_)))))
    have r (x k : Nat) (m : ¬ (x = 2 ∧ (k = 4 ∨ k = 5 ∨ k = 6 ∨ k = 7 ∨ k = 13))) : hi q8.2 x k = hi h x k := by
      rw [g3.at x k (by omega), e3.at x k (by omega), c2.at x k (by omega), b3.1 x k (by omega), hi_wrI, if_neg (by omega)]
    have r13 : hi q8.2 2 13 = hi h 2 13 + 1 := by
      rw [g3.at 2 13 (by omega), e3.at 2 13 (by omega), c2.at 2 13 (by omega), b3.1 2 13 (by omega), hi_wrI, if_pos ⟨rfl, rfl⟩]
    refine ⟨(g1.w (x := 16) (by omega)).w (x := 17) (by omega), c4, ⟨e5, e6⟩, ⟨g5, by omega⟩, by omega, ?_, Int32.toNatClampNeg q4.1, by omega, ?_, ?_, fun k hk => ⟨?_, ?_⟩, fun x k m m1 m2 => ?_⟩
    · rw [hi_wrI, if_neg (by omega), hi_wrI, if_neg (by omega)]; exact r13
    · rw [hi_wrI, if_neg (by omega), hi_wrI, if_pos ⟨rfl, rfl⟩]; exact e4
    · rw [hi_wrI, if_pos ⟨rfl, rfl⟩]; exact g4
    · rw [hi_wrI, if_neg (by omega), hi_wrI, if_neg (by omega)]; exact r 16 k (by omega)
    · rw [hi_wrI, if_neg (by omega), hi_wrI, if_neg (by omega)]; exact r 17 k (by omega)
    · rw [hi_wrI, if_neg (by omega), hi_wrI, if_neg (by omega)]; exact r x k m
  · refine Pc.bind (pc_stop a.2.2.1) (fun q6 h6 => ?_)
    have s6 := h6.2
    rw [if_pos rfl, f2] at s6
    have z2 : ¬ zF q6 := zF.no s6 (by decide)
    have ch : Pc ((F_X7_take n (wrI q6 2 13 ((hi q6 2 13) + 1)) 10).bind (fun q16 => ((F_X7_takeSpot n q16.2).bind (fun q18 => ((F_X7_takeNumber n q18.2 2 6).bind (fun q20 => ((F_X7_takeNumber n q20.2 0 (q20.1 - 1)).bind (fun q22 => (if (q18.1 : Int32) < 0 then some q22.2 else (if (25 : Int32) ≤ (q18.1 : Int32) then some q22.2 else (if ixOK q18.1 25 = true then (if ixOK q18.1 25 = true then some (wrI (wrI q22.2 16 (Int32.toNatClampNeg q18.1) q20.1) 17 (Int32.toNatClampNeg q18.1) q22.1) else none) else none))))))))))) (fun q => zc q6 q) := by
      (repeat (first | refine Pc.ite (fun _ => ?_) (fun _ => ?_) | exact Pc.no | refine Pc.zb zb_X7_take (fun _ => ?_) | refine Pc.zb zb_X7_takeNumber (fun _ => ?_) | refine Pc.zb zb_X7_takeSpot (fun _ => ?_) | refine Pc.zb zb_X7_readLaw (fun _ => ?_) | refine Pc.zb zb_lay4 (fun _ => ?_) | refine Pc.zb (zb_X7_take.mono (fun _ m => (((zc.rf _).w (by omega)).tr m))) (fun _ => ?_) | refine Pc.zb (zb_X7_takeSpot.mono (fun _ m => (((zc.rf _).w (by omega)).tr m))) (fun _ => ?_) | exact Pc.ret (zc.rf _) | exact Pc.ret ((zc.rf _).w (by omega)) | exact Pc.ret (((zc.rf _).w (by omega)).w (by omega)) | refine Pc.zb (F := fun z => z) (Pc.ret (zc.rf _)) (fun _ => ?_)))
    exact ch.mono (fun q m z => absurd (m.2.1 z.1) z2)
theorem ct_tune (X : TX N kd pl vl) (a : cX N kd pl vl t h) {T : TT} (d : cD T t h) (k10 : kd t = 10) : Pc ((F_X7_readTune n h).bind (fun q2 => ((F_X7_take n q2 59).bind (fun q4 => some q4.2)))) (fun q => ZC q → cTell N kd pl vl T t h q) := by
  have f1 := lit_1
  obtain ⟨⟨d1, d2, d3, d4, d5⟩, ⟨S, d6, d7⟩, d8⟩ := d
  obtain ⟨v1, v2, v3, v4, v5, v6⟩ := d8
  have l0 := d2.1
  refine Pc.zt (ct_readTune X a (by omega)) (fun q2 _ b => ?_) (fun q => ?_)
  rotate_left
  · (repeat (first | refine Pc.ite (fun _ => ?_) (fun _ => ?_) | exact Pc.no | refine Pc.zb zb_X7_take (fun _ => ?_) | refine Pc.zb zb_X7_takeNumber (fun _ => ?_) | refine Pc.zb zb_X7_takeSpot (fun _ => ?_) | refine Pc.zb zb_X7_readLaw (fun _ => ?_) | refine Pc.zb zb_lay4 (fun _ => ?_) | refine Pc.zb (zb_X7_take.mono (fun _ m => (((zc.rf _).w (by omega)).tr m))) (fun _ => ?_) | refine Pc.zb (zb_X7_takeSpot.mono (fun _ m => (((zc.rf _).w (by omega)).tr m))) (fun _ => ?_) | exact Pc.ret (zc.rf _) | exact Pc.ret ((zc.rf _).w (by omega)) | exact Pc.ret (((zc.rf _).w (by omega)).w (by omega)) | refine Pc.zb (F := fun z => z) (Pc.ret (zc.rf _)) (fun _ => ?_)))
  obtain ⟨b1, b2, b3, b4, b5, b6, c, c0, c1, c2, c3, b7⟩ := b
  have ad := adT (hi h 2 13) 1 (by omega) (by omega)
  refine Pc.bind (xz_take X b1 59 lit_59 (by decide)) (fun q4 h4 => Pc.ret (fun z => ?_))
  obtain ⟨i1, i2, i3, i4⟩ := h4 z
  have r (x j : Nat) (m : ¬ (x = 2 ∧ (j = 4 ∨ j = 5 ∨ j = 6 ∨ j = 7 ∨ j = 13))) (m2 : x ≠ 16 ∧ x ≠ 17) : hi q4.2 x j = hi h x j := by
    rw [i3.1 x j (by omega), b7 x j m m2.1 m2.2]
  have ll : (T.tn ++ [((vl (t + 1), vl (t + 2)), (vl (t + 3), vl (t + 4)))]).length = T.tn.length + 1 := by simp
  refine ⟨TT.mk T.lw (T.tn ++ [((vl (t + 1), vl (t + 2)), (vl (t + 3), vl (t + 4)))]) T.go T.ro T.ws T.la, t + 6, Or.inr (Or.inl ⟨k10, rfl, rfl⟩), by omega, i1, cD.mk' (d1.cg (fun k => r 4 k (by omega) (by omega))) ⟨?_, fun k hk => ?_⟩ (d3.cg (r 3 2 (by omega) (by omega)) (fun k => r 15 k (by omega) (by omega))) (d4.cg (r 2 14 (by omega) (by omega)) (r 2 12 (by omega) (by omega))) (d5.cg (r 3 3 (by omega) (by omega)) (r 3 4 (by omega) (by omega))) ⟨S, d6.cg (r 5 3 (by omega) (by omega)) (fun k => r 6 k (by omega) (by omega)) (fun k => r 7 k (by omega) (by omega)), by omega⟩ ⟨v1, ⟨?_, fun x hx => ?_⟩, v3, v4, v5, v6⟩, fun x j m => r x j (by omega) (by omega)⟩
  · show (hi q4.2 2 13).toInt = ((T.tn ++ [((vl (t + 1), vl (t + 2)), (vl (t + 3), vl (t + 4)))]).length : Int)
    rw [i3.1 2 13 (by omega), b6, ll]; omega
  · show (lastT (T.tn ++ [((vl (t + 1), vl (t + 2)), (vl (t + 3), vl (t + 4)))]) k = none → _) ∧ ∀ q, lastT (T.tn ++ [((vl (t + 1), vl (t + 2)), (vl (t + 3), vl (t + 4)))]) k = some q → _
    rw [lastT_snoc, i3.1 16 k (by omega), i3.1 17 k (by omega)]
    show ((if vl (t + 1) + 5 * vl (t + 2) = (k : Int) then some (vl (t + 3), vl (t + 4)) else lastT T.tn k) = none → _) ∧ ∀ q, (if vl (t + 1) + 5 * vl (t + 2) = (k : Int) then some (vl (t + 3), vl (t + 4)) else lastT T.tn k) = some q → _
    by_cases y : vl (t + 1) + 5 * vl (t + 2) = (k : Int)
    · have kc : k = c := by omega
      rw [if_pos y, kc]
      refine ⟨fun z => absurd z (Option.some_ne_none _), fun q hq => ?_⟩
      have e : (vl (t + 3), vl (t + 4)) = q := Option.some.inj hq
      rw [← e]
      exact ⟨c1, c2⟩
    · have kc : k ≠ c := by omega
      rw [if_neg y, (c3 k kc).1, (c3 k kc).2]
      exact d2.2 k hk
  · show (T.tn ++ [((vl (t + 1), vl (t + 2)), (vl (t + 3), vl (t + 4)))]).length ≤ 8
    rw [ll]; omega
  · rcases List.mem_append.mp hx with y | y
    · exact v2.2 x y
    · rw [List.mem_singleton.mp y]; exact ⟨b2, b3, b4⟩
/-- the names are gone through, and it is told where -/
theorem ct_goerL (X : TX N kd pl vl) {l1 l2 : Int32} {g : Nat} (hg : l1.toInt = (g : Int)) (g5 : g < 5) : ∀ (n : Nat) (h : Hp) (l3 : Int32) (t : Nat), cX N kd pl vl t h → Pc (W_X7_readGoer n 64 h l1 l2 l3) (fun q => ZC q → cX N kd pl vl (t + 2) q ∧ sp5 (vl t, vl (t + 1)) ∧ (hi q 15 g).toInt = vl t + 5 * vl (t + 1) ∧ hi q 3 2 = hi h 3 2 + 1 ∧ (∀ k, k ≠ g → hi q 15 k = hi h 15 k) ∧ ∀ x k, ¬ (x = 2 ∧ (k = 4 ∨ k = 5 ∨ k = 6 ∨ k = 7)) → ¬ (x = 3 ∧ k = 2) → x ≠ 15 → hi q x k = hi h x k) := by
  have f0 := lit_0
  have f3 := lit_3
  have n1 := ncT (show 0 ≤ l1.toInt by omega)
  have n1' : Int32.toNatClampNeg l1 = g := by omega
  intro n
  induction n with
  | zero => intro h l3 t a; exact Pc.no
  | succ n ih =>
    intro h l3 t a
    rw [u_X7_readGoer, n1']
    refine Pc.pos rfl ?_
    refine Pc.le (fun _ => ?_) (fun _ => ?_)
    · refine Pc.bind (xz_spot X a) (fun q2 h2 => Pc.chk (fun _ => Pc.ret (fun z => ?_)))
      have e32 : hi (wrI q2.2 15 g q2.1) 3 2 = hi q2.2 3 2 := hiA rfl 3 2 (by decide)
      have z2 : ZC q2.2 := by
        unfold ZC at z ⊢
        rw [hi_wrI, if_neg (by decide), hi_wrI, if_neg (by omega), hi_wrI, if_neg (by decide), hi_wrI, if_neg (by omega)] at z
        exact z
      obtain ⟨b1, b2, b3, b4⟩ := h2 z2
      rw [e32, b2.at 3 2 (by omega)]
      refine ⟨(b1.w (x := 15) (by omega)).w (x := 3) (by omega), b4, ?_, hiE rfl, fun k hk => ?_, fun x k m1 m2 m3 => ?_⟩
      · rw [hi_wrI, if_neg (by omega), hi_wrI, if_pos ⟨rfl, rfl⟩]; exact b3
      · rw [hi_wrI, if_neg (by omega), hi_wrI, if_neg (by omega)]; exact b2.at 15 k (by omega)
      · rw [hi_wrI, if_neg (by omega), hi_wrI, if_neg (by omega)]; exact b2.at x k m1
    · refine Pc.chk (fun _ => Pc.chk (fun _ => Pc.ite (fun _ => ?_) (fun _ => ih h _ t a)))
      refine Pc.bind pc_blame (fun q8 h8 => ?_)
      have e6 := (h8.2.2.1 a.2.2.2).1
      have nz : ¬ ZC q8 := fun z => by
        have := z.2
        rw [e6] at this
        omega
      exact (zv_X7_readGoer _ _ _ _ _ _).mono (fun q m z => absurd (m.1 z) nz)
theorem ct_goer (X : TX N kd pl vl) (a : cX N kd pl vl t h) {T : TT} (d : cD T t h) (k11 : kd t = 11) : Pc ((F_X7_readGoer n h).bind (fun q2 => ((F_X7_take n q2 59).bind (fun q4 => some q4.2)))) (fun q => ZC q → cTell N kd pl vl T t h q) := by
  have f0 := lit_0
  have f1 := lit_1
  have f2 := lit_2
  have f5 := lit_5
  obtain ⟨⟨d1, d2, d3, d4, d5⟩, ⟨S, d6, d7⟩, d8⟩ := d
  obtain ⟨v1, v2, v3, v4, v5, v6⟩ := d8
  have l0 := d3.1
  have rd : Pc (F_X7_readGoer n h) (fun q => ZC q → T.go.length < 5 ∧ cX N kd pl vl (t + 4) q ∧ sp5 (vl (t + 2), vl (t + 3)) ∧ (hi q 15 T.go.length).toInt = vl (t + 2) + 5 * vl (t + 3) ∧ hi q 3 2 = hi h 3 2 + 1 ∧ (∀ k, k ≠ T.go.length → hi q 15 k = hi h 15 k) ∧ ∀ x k, ¬ (x = 2 ∧ (k = 4 ∨ k = 5 ∨ k = 6 ∨ k = 7)) → ¬ (x = 3 ∧ k = 2) → x ≠ 15 → hi q x k = hi h x k) := by
    unfold F_X7_readGoer
    refine Pc.lt (fun c5 => ?_) (fun c5 => ?_)
    · refine Pc.zt (xz_take X a 11 lit_11 (by decide)) (fun q11 _ b => ?_) (fun q => ?_)
      rotate_left
      · refine Pc.bind (zf_X9_valueOf) (fun q13 h13 => Pc.chk (fun _ => ?_))
        have m13 : zc q.2 q13.2 := zc.fr h13 (fun z => z) (fun z => z)
        refine Pc.bind zf_X9_placeOf (fun q16 h16 => ?_)
        have m16 : zc q.2 q16.2 := m13.tr ((zc.rf _).wL.tr (zc.fr h16 (fun z => z) (fun z => z)))
        refine Pc.bind zb_X7_take (fun q18 m18 => ?_)
        exact (zv_X7_readGoer _ _ _ _ _ _).mono (fun _ m => (m16.tr m18).tr m)
      obtain ⟨b1, b2, b3, b4⟩ := b
      refine Pc.bind (pc_valueOf b1.1 b1.2.1 b1.2.2.1.2) (fun q13 h13 => Pc.chk (fun _ => ?_))
      rw [h13.1]
      generalize ew : wrL q11.2 14 _ q13.1 = w
      have rw' (x k : Nat) : hi w x k = hi q11.2 x k := by rw [← ew]; rfl
      have xw : cX N kd pl vl (t + 1) w := by
        refine ⟨b1.1.cg ⟨fun k => rw' 18 k, fun k => rw' 20 k, fun k => rw' 21 k, fun k => ?_⟩, b1.2.1, ⟨by rw [rw']; exact b1.2.2.1.1, by rw [rw']; exact b1.2.2.1.2⟩, by rw [rw']; exact b1.2.2.2⟩
        rw [← ew, hl_wrL, if_neg (by omega)]
      refine Pc.bind zf_X9_placeOf (fun q16 h16 => ?_)
      have r16 (x k : Nat) : hi q16.2 x k = hi w x k := h16.1 x k (fun z => z)
      have x16 : cX N kd pl vl (t + 1) q16.2 := ⟨xw.1.cg ⟨fun k => r16 18 k, fun k => r16 20 k, fun k => r16 21 k, fun k => h16.2 22 k (fun z => z)⟩, xw.2.1, ⟨by rw [r16]; exact xw.2.2.1.1, by rw [r16]; exact xw.2.2.1.2⟩, by rw [r16]; exact xw.2.2.2⟩
      refine Pc.zt (xz_take X x16 31 lit_31 (by decide)) (fun q18 _ c => ?_) (fun q => zv_X7_readGoer _ _ _ _ _ _)
      obtain ⟨c1, c2, c3, c4⟩ := c
      have e1 (x k : Nat) (m : ¬ (x = 2 ∧ (k = 4 ∨ k = 5 ∨ k = 6 ∨ k = 7))) : hi q18.2 x k = hi h x k := by
        rw [c3.1 x k (by omega), r16, rw', b3.1 x k (by omega)]
      refine (ct_goerL X (g := T.go.length) l0 (by omega) n q18.2 0 (t + 2) c1).mono (fun q hq z => ?_)
      obtain ⟨g1, g2, g3, g4, g5, g6⟩ := hq z
      exact ⟨by omega, g1, g2, g3, by rw [g4, e1 3 2 (by omega)], fun k hk => by rw [g5 k hk, e1 15 k (by omega)], fun x k m1 m2 m3 => by rw [g6 x k m1 m2 m3, e1 x k m1]⟩
    · refine Pc.bind (pc_stop a.2.2.1) (fun q6 h6 => Pc.ret (fun z => ?_))
      have s6 := h6.2
      rw [if_pos rfl, f2] at s6
      exact absurd z.1 (zF.no s6 (by decide))
  refine Pc.zt rd (fun q2 _ b => ?_) (fun q => ?_)
  rotate_left
  · (repeat (first | refine Pc.ite (fun _ => ?_) (fun _ => ?_) | exact Pc.no | refine Pc.zb zb_X7_take (fun _ => ?_) | refine Pc.zb zb_X7_takeNumber (fun _ => ?_) | refine Pc.zb zb_X7_takeSpot (fun _ => ?_) | refine Pc.zb zb_X7_readLaw (fun _ => ?_) | refine Pc.zb zb_lay4 (fun _ => ?_) | refine Pc.zb (zb_X7_take.mono (fun _ m => (((zc.rf _).w (by omega)).tr m))) (fun _ => ?_) | refine Pc.zb (zb_X7_takeSpot.mono (fun _ m => (((zc.rf _).w (by omega)).tr m))) (fun _ => ?_) | exact Pc.ret (zc.rf _) | exact Pc.ret ((zc.rf _).w (by omega)) | exact Pc.ret (((zc.rf _).w (by omega)).w (by omega)) | refine Pc.zb (F := fun z => z) (Pc.ret (zc.rf _)) (fun _ => ?_)))
  obtain ⟨b0, b1, b2, b3, b4, b5, b6⟩ := b
  have ad := adT (hi h 3 2) 1 (by omega) (by omega)
  refine Pc.bind (xz_take X b1 59 lit_59 (by decide)) (fun q4 h4 => Pc.ret (fun z => ?_))
  obtain ⟨i1, i2, i3, i4⟩ := h4 z
  have r (x j : Nat) (m : ¬ (x = 2 ∧ (j = 4 ∨ j = 5 ∨ j = 6 ∨ j = 7))) (m2 : ¬ (x = 3 ∧ j = 2) ∧ x ≠ 15) : hi q4.2 x j = hi h x j := by
    rw [i3.1 x j (by omega), b6 x j m m2.1 m2.2]
  have ll : (T.go ++ [(vl (t + 2), vl (t + 3))]).length = T.go.length + 1 := by simp
  refine ⟨TT.mk T.lw T.tn (T.go ++ [(vl (t + 2), vl (t + 3))]) T.ro T.ws T.la, t + 5, Or.inr (Or.inr (Or.inl ⟨k11, rfl, rfl⟩)), by omega, i1, cD.mk' (d1.cg (fun k => r 4 k (by omega) (by omega))) (d2.cg (r 2 13 (by omega) (by omega)) (fun k => r 16 k (by omega) (by omega)) (fun k => r 17 k (by omega) (by omega))) ⟨?_, fun g hg => ?_⟩ (d4.cg (r 2 14 (by omega) (by omega)) (r 2 12 (by omega) (by omega))) (d5.cg (r 3 3 (by omega) (by omega)) (r 3 4 (by omega) (by omega))) ⟨S, d6.cg (r 5 3 (by omega) (by omega)) (fun k => r 6 k (by omega) (by omega)) (fun k => r 7 k (by omega) (by omega)), by omega⟩ ⟨v1, v2, ⟨?_, fun x hx => ?_⟩, v4, v5, v6⟩, fun x j m => r x j (by omega) (by omega)⟩
  · show (hi q4.2 3 2).toInt = ((T.go ++ [(vl (t + 2), vl (t + 3))]).length : Int)
    rw [i3.1 3 2 (by omega), b4, ll]; omega
  · have hg' : g < (T.go ++ [(vl (t + 2), vl (t + 3))]).length := hg
    rw [ll] at hg'
    show (hi q4.2 15 g).toInt = ((T.go ++ [(vl (t + 2), vl (t + 3))]).getD g (0, 0)).1 + 5 * ((T.go ++ [(vl (t + 2), vl (t + 3))]).getD g (0, 0)).2
    rw [i3.1 15 g (by omega)]
    by_cases y : g = T.go.length
    · rw [y, b3]
      have : (T.go ++ [(vl (t + 2), vl (t + 3))]).getD T.go.length (0, 0) = (vl (t + 2), vl (t + 3)) := by simp [List.getD]
      rw [this]
    · rw [b5 g y, d3.2 g (by omega)]
      have : (T.go ++ [(vl (t + 2), vl (t + 3))]).getD g (0, 0) = T.go.getD g (0, 0) := by
        simp only [List.getD]
        rw [List.getElem?_append_left (by omega)]
      rw [this]
  · show (T.go ++ [(vl (t + 2), vl (t + 3))]).length ≤ 5
    rw [ll]; omega
  · rcases List.mem_append.mp hx with y | y
    · exact v3.2 x y
    · rw [List.mem_singleton.mp y]; exact b2
theorem ct_law (X : TX N kd pl vl) (vlr : ∀ t, kd t = 30 → 0 ≤ vl t ∧ vl t ≤ 9999) (a : cX N kd pl vl t h) {T : TT} (d : cD T t h) {x1 x2 : Int32} {k : Nat} (k4 : k < 4) (hk : kd t = 13 + (k : Int)) (hx : x1.toInt = kd t) (hx2 : x2.toInt = (k : Int)) : Pc ((F_X7_take n h x1).bind (fun q26 => ((F_X7_readLaw n q26.2 x2).bind (fun q28 => ((F_X7_take n q28 59).bind (fun q30 => some q30.2)))))) (fun q => ZC q → cTell N kd pl vl T t h q) := by
  obtain ⟨⟨d1, d2, d3, d4, d5⟩, ⟨S, d6, d7⟩, d8⟩ := d
  obtain ⟨v1, v2, v3, v4, v5, v6⟩ := d8
  refine Pc.zt (xz_take X a (kd t) hx (by omega)) (fun q26 _ b => ?_) (fun q => ?_)
  rotate_left
  · (repeat (first | refine Pc.ite (fun _ => ?_) (fun _ => ?_) | exact Pc.no | refine Pc.zb zb_X7_take (fun _ => ?_) | refine Pc.zb zb_X7_takeNumber (fun _ => ?_) | refine Pc.zb zb_X7_takeSpot (fun _ => ?_) | refine Pc.zb zb_X7_readLaw (fun _ => ?_) | refine Pc.zb zb_lay4 (fun _ => ?_) | refine Pc.zb (zb_X7_take.mono (fun _ m => (((zc.rf _).w (by omega)).tr m))) (fun _ => ?_) | refine Pc.zb (zb_X7_takeSpot.mono (fun _ m => (((zc.rf _).w (by omega)).tr m))) (fun _ => ?_) | exact Pc.ret (zc.rf _) | exact Pc.ret ((zc.rf _).w (by omega)) | exact Pc.ret (((zc.rf _).w (by omega)).w (by omega)) | refine Pc.zb (F := fun z => z) (Pc.ret (zc.rf _)) (fun _ => ?_)))
  obtain ⟨b1, b2, b3, b4⟩ := b
  have os : osN q26.2 S := b3.os d6.1
  refine Pc.zt (F := fun q => q) (A := fun q28 => frL q26.2 q28 ∧ ∃ bs f t' s2, cX N kd pl vl t' q28 ∧ LW (rcE kd vl) kd bs (t + 1 + 1) f t' ∧ osN q28 s2 ∧ clO (hi q28 6) s2 S bs f ∧ (∀ j, j < S → hi q28 6 j = hi q26.2 6 j) ∧ (hi q28 7 k).toInt = (S : Int) ∧ (∀ j, j ≠ k → hi q28 7 j = hi q26.2 7 j) ∧ s2 ≤ 3 + t' ∧ t + 1 < t' ∧ S < s2) (fun q e z => ?_) (fun q28 _ c => ?_) (fun q => ?_)
  · have p := pc_law X b1.1 b1.2.1 b1.2.2.1 q e
    obtain ⟨bs, f, t', s2, o1, o2, o3, o4, o5, o6, o7, o8, o9, o10, o11, o12⟩ := qc_law X b1.1 b1.2.1 b1.2.2.1 hx2 k4 os (by omega) q e z.1
    obtain ⟨p1, f', t1, kk, p2, p3, p4⟩ := p
    have tt : t1 = t' := by
      have x := p2.2
      have y := o2.2
      omega
    subst tt
    exact ⟨p1, bs, f, t1, s2, ⟨b1.1.cg p1.tk, p3, o2, z.2⟩, o3, o4, o5, o6, o7, o8, o9, by omega, o12⟩
  rotate_left
  · (repeat (first | refine Pc.ite (fun _ => ?_) (fun _ => ?_) | exact Pc.no | refine Pc.zb zb_X7_take (fun _ => ?_) | refine Pc.zb zb_X7_takeNumber (fun _ => ?_) | refine Pc.zb zb_X7_takeSpot (fun _ => ?_) | refine Pc.zb zb_X7_readLaw (fun _ => ?_) | refine Pc.zb zb_lay4 (fun _ => ?_) | refine Pc.zb (zb_X7_take.mono (fun _ m => (((zc.rf _).w (by omega)).tr m))) (fun _ => ?_) | refine Pc.zb (zb_X7_takeSpot.mono (fun _ m => (((zc.rf _).w (by omega)).tr m))) (fun _ => ?_) | exact Pc.ret (zc.rf _) | exact Pc.ret ((zc.rf _).w (by omega)) | exact Pc.ret (((zc.rf _).w (by omega)).w (by omega)) | refine Pc.zb (F := fun z => z) (Pc.ret (zc.rf _)) (fun _ => ?_)))
  obtain ⟨c1, bs, f, t', s2, c2, c3, c4, c5, c6, c7, c8, c9, c10, c11⟩ := c
  refine Pc.bind (xz_take X c2 59 lit_59 (by decide)) (fun q4 h4 => Pc.ret (fun z => ?_))
  obtain ⟨i1, i2, i3, i4⟩ := h4 z
  have r (x j : Nat) (m : x ≠ 5 ∧ x ≠ 6 ∧ x ≠ 7) (m2 : ¬ (x = 2 ∧ (j = 4 ∨ j = 5))) : hi q4.2 x j = hi h x j := by
    rw [i3.1 x j (by omega), c1.1 x j m.1 m.2.1 m.2.2 m2, b3.1 x j (by omega)]
  have ek : (kd t - 13).toNat = k := by omega
  refine ⟨TT.mk T.lw T.tn T.go T.ro T.ws (updL T.la k (bs, f)), t' + 1, Or.inr (Or.inr (Or.inr (Or.inr (Or.inr (Or.inr ⟨by omega, by omega, bs, f, t', c3.map rd_me, by rw [ek], rfl⟩))))), by omega, i1, cD.mk' (d1.cg (fun k => r 4 k (by omega) (by omega))) (d2.cg (r 2 13 (by omega) (by omega)) (fun k => r 16 k (by omega) (by omega)) (fun k => r 17 k (by omega) (by omega))) (d3.cg (r 3 2 (by omega) (by omega)) (fun k => r 15 k (by omega) (by omega))) (d4.cg (r 2 14 (by omega) (by omega)) (r 2 12 (by omega) (by omega))) (d5.cg (r 3 3 (by omega) (by omega)) (r 3 4 (by omega) (by omega))) ⟨s2, ⟨i3.os c4, fun j hj => ?_⟩, by omega⟩ ⟨v1, v2, v3, v4, v5, fun j b hb => ?_⟩, fun x j m => r x j (by omega) (by omega)⟩
  · show ∃ p : Nat, (hi q4.2 7 j).toInt = (p : Int) ∧ clO (hi q4.2 6) s2 p (lawD (updL T.la k (bs, f)) j).1 (lawD (updL T.la k (bs, f)) j).2
    by_cases y : j = k
    · have e : lawD (updL T.la k (bs, f)) j = (bs, f) := by unfold lawD updL; rw [if_pos y]; rfl
      rw [e]
      refine ⟨S, by rw [i3.o7, y]; exact c7, c5.cg (Nat.le_refl s2) (fun z _ => i3.o6 z)⟩
    · have e : lawD (updL T.la k (bs, f)) j = lawD T.la j := by unfold lawD updL; rw [if_neg y]
      rw [e]
      obtain ⟨p, p1, p2⟩ := d6.2 j hj
      refine ⟨p, by rw [i3.o7, c8 j y, b3.o7]; exact p1, p2.cg (by omega) (fun z hz => ?_)⟩
      rw [i3.o6, c6 z hz, b3.o6]
  · have hb' : (if j = k then some (bs, f) else T.la j) = some b := hb
    by_cases y : j = k
    · rw [if_pos y] at hb'
      have e : (bs, f) = b := Option.some.inj hb'
      rw [← e]
      exact LW.gd vlr c3
    · rw [if_neg y] at hb'
      exact v6 j b hb'
/-- a statement, whichever -/
theorem qc_tell (X : TX N kd pl vl) (vlr : ∀ t, kd t = 30 → 0 ≤ vl t ∧ vl t ≤ 9999) (a : cX N kd pl vl t h) {T : TT} (d : cD T t h) {x1 : Int32} (hx : x1.toInt = kd t) : Pc (F_X7_readTell n h x1) (fun q => ZC q → cTell N kd pl vl T t h q) := by
  have f9 := lit_9
  have f10 := lit_10
  have f11 := lit_11
  have f12 := lit_12
  have f13 := lit_13
  have f14 := lit_14
  have f15 := lit_15
  have f16 := lit_16
  have f17 := lit_17
  have f18 := lit_18
  have f1 := lit_1
  have f0 := lit_0
  have f2 := lit_2
  have f3 := lit_3
  have bad : Pc ((F_X7_stop n h 1).bind (fun q => some q)) (fun q => ZC q → cTell N kd pl vl T t h q) := by
    refine Pc.bind (pc_stop a.2.2.1) (fun q hq => Pc.ret (fun z => ?_))
    have w := hq.2
    rw [if_pos rfl, f1] at w
    exact absurd z.1 (zF.no w (by decide))
  have lw {x2 : Int32} (k : Nat) (k4 : k < 4) (hk : kd t = 13 + (k : Int)) (hx2 : x2.toInt = (k : Int)) : Pc ((F_X7_take n h x1).bind (fun q26 => ((F_X7_readLaw n q26.2 x2).bind (fun q28 => ((F_X7_take n q28 59).bind (fun q30 => some q30.2)))))) (fun q => ZC q → cTell N kd pl vl T t h q) := ct_law X vlr a d k4 hk hx hx2
  unfold F_X7_readTell
  refine Pc.eq (fun c => ct_lawn X a d (by omega)) (fun c9 => ?_)
  refine Pc.eq (fun c => ct_tune X a d (by omega)) (fun c10 => ?_)
  refine Pc.eq (fun c => ct_goer X a d (by omega)) (fun c11 => ?_)
  refine Pc.eq (fun c => ct_rope X a d (by omega)) (fun c12 => ?_)
  refine Pc.eq (fun c => ?_) (fun c13 => ?_)
  · refine Pc.lt (fun c' => by exfalso; omega) (fun _ => ?_)
    exact Pc.le (fun _ => lw 0 (by decide) (by omega) ((sbV x1 13 (c.trans f13) f13 (by decide) (by decide)).trans (by decide))) (fun c' => by exfalso; omega)
  refine Pc.eq (fun c => ?_) (fun c14 => ?_)
  · refine Pc.lt (fun c' => by exfalso; omega) (fun _ => ?_)
    exact Pc.le (fun _ => lw 1 (by decide) (by omega) ((sbV x1 13 (c.trans f14) f13 (by decide) (by decide)).trans (by decide))) (fun c' => by exfalso; omega)
  refine Pc.eq (fun c => ?_) (fun c15 => ?_)
  · refine Pc.lt (fun c' => by exfalso; omega) (fun _ => ?_)
    exact Pc.le (fun _ => lw 2 (by decide) (by omega) ((sbV x1 13 (c.trans f15) f13 (by decide) (by decide)).trans (by decide))) (fun c' => by exfalso; omega)
  refine Pc.eq (fun c => ?_) (fun c16 => ?_)
  · refine Pc.lt (fun c' => by exfalso; omega) (fun _ => ?_)
    exact Pc.le (fun _ => lw 3 (by decide) (by omega) ((sbV x1 13 (c.trans f16) f13 (by decide) (by decide)).trans (by decide))) (fun c' => by exfalso; omega)
  refine Pc.eq (fun c => ct_one X a d 17 (by omega) (by decide) lit_0 lit_100 (by decide) (by omega)) (fun c17 => ?_)
  refine Pc.eq (fun c => ct_one X a d 18 (by omega) (by decide) lit_0 (show (9999 : Int32).toInt = 9999 by decide) (by decide) (by omega)) (fun c18 => ?_)
  refine Pc.lt (fun c' => bad) (fun c' => ?_)
  exact Pc.le (fun c'' => by exfalso; omega) (fun c'' => bad)
end XC
