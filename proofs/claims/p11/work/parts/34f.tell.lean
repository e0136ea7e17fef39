/-! READING: ropes, goers -/
section TM
variable {s : Nat} {hC h : Hp}
theorem sr_rope {n : Nat} (hs : s ≤ 1) (j : jR s hC h) (t8 : (hi h 245 s).toInt < 8) : Ok (F_X12_tellRope n h) (fun q => jR s hC q ∧ (hi h 226 11).toInt ≤ (hi q 226 11).toInt ∧ ((hi q 226 13).toInt = 0 → (hi h 226 13).toInt = 0)) := by
  obtain ⟨i1, i2⟩ := j.side hs
  have j19 := j.1.2.1.2
  have c8 := j.1.2.2.2.1.2.2.2
  unfold F_X12_tellRope
  refine Ok.pos i1 ?_
  rw [i2]
  have ix := i8 j19 hs c8.1 c8.2
  have im : ixOK (8 * hi h 226 19 + hi h 245 s) 16 = true := ixT (by omega) (by omega)
  generalize ek : Int32.toNatClampNeg (8 * hi h 226 19 + hi h 245 s) = k
  rw [ek] at ix
  refine Ok.bind (sr_bounded j.1.2.2.1) (fun q2 hq2 => ?_)
  refine Ok.pos im ?_
  have j2 := j.p hq2.1
  have r2 : hi q2.2 245 s = hi h 245 s := hq2.1.1 245 s (pK226 (by decide))
  have j3 : jR s hC (wrI q2.2 246 k q2.1) := j2.wx (Or.inr (Or.inr ⟨by decide, by rw [r2]; exact ix.2⟩))
  generalize eg3 : wrI q2.2 246 k q2.1 = g3 at j3
  refine Ok.bind (sr_bounded j3.1.2.2.1) (fun q13 hq13 => ?_)
  refine Ok.pos im ?_
  have j13 := j3.p hq13.1
  have r13 : hi q13.2 245 s = hi h 245 s := (hq13.1.1 245 s (pK226 (by decide))).trans ((hiA eg3 245 s (by decide)).trans r2)
  have j14 : jR s hC (wrI q13.2 247 k q13.1) := j13.wx (Or.inr (Or.inr ⟨by decide, by rw [r13]; exact ix.2⟩))
  generalize eg14 : wrI q13.2 247 k q13.1 = g14 at j14
  have t3 (z : Nat) : hi g3 226 z = hi q2.2 226 z := hiA eg3 226 z (by decide)
  have t14 (z : Nat) : hi g14 226 z = hi q13.2 226 z := hiA eg14 226 z (by decide)
  refine Ok.bind (sr_must j14.1.2.2.1) (fun q hq => ?_)
  have jq := j14.p hq.1
  have m1 := hq2.1.2.2.2.1
  have m4 := hq13.1.2.2.2.1
  have m5 := hq.1.2.2.2.1
  have b5 := hq.2
  have b4 := hq13.2
  have b1 := hq2.2
  have u5 := hq.1.2.2.2.2.2
  have u4 := hq13.1.2.2.2.2.2
  rw [t3] at m4 b4 u4
  rw [t14] at m5 b5 u5
  rw [t3] at b4
  rw [t14] at b5
  have f0 := lit_0
  have f1 := lit_1
  refine Ok.eq (fun c1 => ?_) (fun c1 => Ok.ret ⟨jq, by omega, fun z => by omega⟩)
  obtain ⟨k1, k2⟩ := jq.side hs
  refine Ok.pos k1 (Ok.pos k1 ?_)
  rw [k2]
  have rq (a z : Nat) (h1 : a ≠ 226) : hi q a z = hi g14 a z := hq.1.1 a z (pK226 h1)
  have rq13 (a z : Nat) (h1 : a ≠ 226) : hi q13.2 a z = hi g3 a z := hq13.1.1 a z (pK226 h1)
  have w245 : hi q 245 s = hi h 245 s := (rq 245 s (by decide)).trans ((hiA eg14 245 s (by decide)).trans r13)
  have w247 : hi q 247 k = q13.1 := by rw [rq 247 k (by decide)]; exact hiE eg14
  have w246 : hi q 246 k = q2.1 := by rw [rq 246 k (by decide), hiA eg14 246 k (by decide), rq13 246 k (by decide)]; exact hiE eg3
  rw [w245]
  have a1 := adT (hi h 245 s) 1 (by omega) (by omega)
  have cq := jq.1.2.2.2.1
  have rn (a z : Nat) (ha : a ≠ 245) : hi (wrI q 245 s (hi h 245 s + 1)) a z = hi q a z := by rw [hi_wrI, if_neg (fun w => ha w.1)]
  have rc : hi (wrI q 245 s (hi h 245 s + 1)) 245 s = hi h 245 s + 1 := by rw [hi_wrI, if_pos ⟨rfl, rfl⟩]
  refine Ok.ret ⟨jq.w (by decide) (by decide) (by decide) (by unfold frB; omega) ?_ (fun z1 z2 vl => ?_), by rw [rn 226 11 (by decide)]; omega, fun z => by rw [rn 226 13 (by decide)] at z; omega⟩
  · unfold cnB
    rw [rc, rn 242 s (by decide), rn 226 20 (by decide), rn 237 s (by decide)]
    exact ⟨cq.1, cq.2.1, cq.2.2.1, by omega⟩
  · obtain ⟨v1, v2, v3, v4, v5⟩ := vl
    unfold vlO
    rw [rc, rn 235 s (by decide), rn 236 s (by decide), rn 242 s (by decide), rn 237 s (by decide)]
    refine ⟨v1, v2, fun i il => ?_, fun i il => ?_, fun i il => ?_⟩
    · rw [rn 238 _ (by decide), rn 239 _ (by decide), rn 240 _ (by decide), rn 241 _ (by decide)]
      exact v3 i il
    · rw [rn 243 _ (by decide), rn 244 _ (by decide)]
      exact v4 i il
    · rw [rn 246 _ (by decide), rn 247 _ (by decide)]
      by_cases zz : (i : Int) < (hi h 245 s).toInt
      · exact v5 i (by rw [w245]; exact zz)
      · have ei : 8 * s + i = k := by omega
        rw [ei, w246, w247]
        have y5 := b5 (by omega)
        have y4 := b4 y5.1
        have y1 := b1 y4.1
        have x4 := y4.2.2 (u5 z2)
        have x1 := y1.2.2 (u4 (u5 z2))
        have f4 := lit_4
        unfold in4
        omega
/-- one goer more -/
theorem jR.goer {q : Hp} (hs : s ≤ 1) (j : jR s hC q) (fz : (hi q 226 13).toInt = 0) (g5 : (hi q 242 s).toInt < 5) {k : Nat} (hk : (k : Int) = 5 * s + (hi q 242 s).toInt) (ok : (hi q 226 15).toInt = 0 → in4 (hi q 243 k) ∧ in4 (hi q 244 k)) {i : Nat} {v : Int64} : jR s hC (wrI (wrI (wrL q 234 i v) 226 20 (hi q 226 20 + 1)) 242 s (hi q 242 s + 1)) := by
  have n5 := (j.2 fz).2.1
  have f1 := lit_1
  have a1 := adT (hi q 242 s) 1 (by have := j.1.2.2.2.1; unfold cnB at this; omega) (by omega)
  have a2 := adT (hi q 226 20) 1 (by have := j.1.2.2.2.1; unfold cnB at this; omega) (by omega)
  obtain ⟨⟨⟨b1, b2⟩, ⟨b3, b4⟩, b5, b6, b7, b8⟩, g⟩ := j
  generalize eq : wrI (wrI (wrL q 234 i v) 226 20 (hi q 226 20 + 1)) 242 s (hi q 242 s + 1) = r
  have rr (a z : Nat) (h1 : ¬ (a = 226 ∧ z = 20)) (h2 : ¬ (a = 242 ∧ z = s)) : hi r a z = hi q a z := by
    rw [← eq, hi_wrI, if_neg h2, hi_wrI, if_neg h1]
    rfl
  have r20 : hi r 226 20 = hi q 226 20 + 1 := by rw [← eq, hi_wrI, if_neg (by omega), hi_wrI, if_pos ⟨rfl, rfl⟩]
  have r42 : hi r 242 s = hi q 242 s + 1 := by rw [← eq, hi_wrI, if_pos ⟨rfl, rfl⟩]
  have r2 (z : Nat) (h1 : z ≠ 20) : hi r 226 z = hi q 226 z := rr 226 z (by omega) (by omega)
  obtain ⟨c1, c2, c3, c4⟩ := b6
  refine ⟨⟨⟨fun a z q1 => ?_, fun a z q1 => ?_⟩, ⟨by rw [r2 2 (by decide)]; exact b3, by rw [r2 19 (by decide)]; exact b4⟩, ?_, ?_, by rw [r2 45 (by decide), r2 11 (by decide)]; exact b7, by rw [r2 39 (by decide)]; exact b8⟩, fun z => ?_⟩
  · rw [rr a z (by unfold frB at q1; omega) (by unfold frB at q1; omega)]
    exact b1 a z q1
  · rw [← eq]
    show up2 (hl q) 234 i v a z = _
    unfold up2
    rw [if_neg (fun w => by omega)]
    exact b2 a z q1
  · show (0 ≤ (hi r 226 11).toInt ∧ (hi r 226 11).toInt ≤ 400) ∧ 0 ≤ (hi r 226 13).toInt ∧ 0 ≤ (hi r 226 15).toInt
    rw [r2 11 (by decide), r2 13 (by decide), r2 15 (by decide)]
    exact b5
  · unfold cnB
    rw [r20, r42, rr 237 s (by omega) (by omega), rr 245 s (by omega) (by omega)]
    omega
  · obtain ⟨g1, g2, g3, g4, g5', g6⟩ := g fz
    refine ⟨by rw [r2 12 (by decide)]; exact g1, by rw [r20, r42]; omega, by rw [r2 45 (by decide), r2 11 (by decide)]; exact g3, by rw [r2 39 (by decide), r2 11 (by decide)]; exact g4, fun w => ?_, g6.cg (fun a z h1 h2 => rr a z (by omega) (by omega)) (by rw [r2 39 (by decide)]; omega) (by rw [r2 45 (by decide)]; omega)⟩
    rw [r2 15 (by decide)] at w
    obtain ⟨v1, v2, v3, v4, v5⟩ := g5' w
    have rt (a z : Nat) (h1 : a ≠ 226) (h2 : a ≠ 242) : hi r a z = hi q a z := rr a z (by omega) (by omega)
    unfold vlO
    rw [r42, rt 235 s (by decide) (by decide), rt 236 s (by decide) (by decide), rt 237 s (by decide) (by decide), rt 245 s (by decide) (by decide)]
    refine ⟨v1, v2, fun i il => ?_, fun i il => ?_, fun i il => ?_⟩
    · rw [rt 238 _ (by decide) (by decide), rt 239 _ (by decide) (by decide), rt 240 _ (by decide) (by decide), rt 241 _ (by decide) (by decide)]
      exact v3 i il
    · rw [rt 243 _ (by decide) (by decide), rt 244 _ (by decide) (by decide)]
      by_cases zz : (i : Int) < (hi q 242 s).toInt
      · exact v4 i zz
      · have ei : 5 * s + i = k := by omega
        rw [ei]
        exact ok w
    · rw [rt 246 _ (by decide) (by decide), rt 247 _ (by decide) (by decide)]
      exact v5 i il
set_option maxHeartbeats 4000000 in
theorem sr_goerL (hs : s ≤ 1) {l1 l2 : Int32} {T0 : Int} (k0 : 0 ≤ l1.toInt) (k1 : l1.toInt < 5 * s + 5) (y0 : 0 ≤ l2.toInt) (y1 : l2.toInt ≤ 400) : ∀ n : Nat, ∀ (h : Hp) (l3 : Int32), jR s hC h → l1.toInt = 5 * s + (hi h 242 s).toInt → T0 ≤ (hi h 226 11).toInt → 0 ≤ l3.toInt → (1 : Int) < n → (1 : Int) + (6 - l3.toInt) < n → Ok (W_X12_tellGoer n 29 h l1 l2 l3) (fun q => jR s hC q ∧ T0 ≤ (hi q 226 11).toInt ∧ ((hi q 226 13).toInt = 0 → (hi h 226 13).toInt = 0)) := by
  intro n
  induction n with
  | zero => intro h l3 j a b c d e; exfalso; omega
  | succ n ih =>
    intro h l3 j a b c d e
    have f0 := lit_0
    have f1 := lit_1
    have cn := j.1.2.2.2.1
    have cn2 := cn.2.1
    have cn3 := cn.2.2.1
    have nk := ncT k0
    have nl := ncT y0
    have n3 := ncT c
    have im : ixOK l1 10 = true := ixT (by omega) (by omega)
    have iy : ixOK l2 403 = true := ixT (by omega) (by omega)
    rw [u_X12_tellGoer]
    refine Ok.pos rfl ?_
    have fin : Ok ((F_X12_bounded n h 0 4).bind (fun q2 => (if ixOK l1 10 = true then ((F_X12_bounded n (wrI q2.2 243 (Int32.toNatClampNeg l1) q2.1) 0 4).bind (fun q5 => (if ixOK l1 10 = true then ((F_X12_must n (wrI q5.2 244 (Int32.toNatClampNeg l1) q5.1) 4).bind (fun q8 => (if ((hi q8 226 13) : Int32) ≤ 0 then (if ixOK l2 403 = true then (if ixOK (hi q8 226 20) 5 = true then (if ixOK (hi (wrI (wrL q8 234 (Int32.toNatClampNeg (hi q8 226 20)) (hl q8 232 (Int32.toNatClampNeg l2))) 226 20 ((hi (wrL q8 234 (Int32.toNatClampNeg (hi q8 226 20)) (hl q8 232 (Int32.toNatClampNeg l2))) 226 20) + 1)) 226 19) 2 = true then (if ixOK (hi (wrI (wrL q8 234 (Int32.toNatClampNeg (hi q8 226 20)) (hl q8 232 (Int32.toNatClampNeg l2))) 226 20 ((hi (wrL q8 234 (Int32.toNatClampNeg (hi q8 226 20)) (hl q8 232 (Int32.toNatClampNeg l2))) 226 20) + 1)) 226 19) 2 = true then some (wrI (wrI (wrL q8 234 (Int32.toNatClampNeg (hi q8 226 20)) (hl q8 232 (Int32.toNatClampNeg l2))) 226 20 ((hi (wrL q8 234 (Int32.toNatClampNeg (hi q8 226 20)) (hl q8 232 (Int32.toNatClampNeg l2))) 226 20) + 1)) 242 (Int32.toNatClampNeg (hi (wrI (wrL q8 234 (Int32.toNatClampNeg (hi q8 226 20)) (hl q8 232 (Int32.toNatClampNeg l2))) 226 20 ((hi (wrL q8 234 (Int32.toNatClampNeg (hi q8 226 20)) (hl q8 232 (Int32.toNatClampNeg l2))) 226 20) + 1)) 226 19)) ((hi (wrI (wrL q8 234 (Int32.toNatClampNeg (hi q8 226 20)) (hl q8 232 (Int32.toNatClampNeg l2))) 226 20 ((hi (wrL q8 234 (Int32.toNatClampNeg (hi q8 226 20)) (hl q8 232 (Int32.toNatClampNeg l2))) 226 20) + 1)) 242 (Int32.toNatClampNeg (hi (wrI (wrL q8 234 (Int32.toNatClampNeg (hi q8 226 20)) (hl q8 232 (Int32.toNatClampNeg l2))) 226 20 ((hi (wrL q8 234 (Int32.toNatClampNeg (hi q8 226 20)) (hl q8 232 (Int32.toNatClampNeg l2))) 226 20) + 1)) 226 19))) + 1)) else none) else none) else none) else none) else some q8))) else none))) else none))) (fun q => jR s hC q ∧ T0 ≤ (hi q 226 11).toInt ∧ ((hi q 226 13).toInt = 0 → (hi h 226 13).toInt = 0)) := by
      generalize ek : Int32.toNatClampNeg l1 = k
      rw [ek] at nk
      refine Ok.bind (sr_bounded j.1.2.2.1) (fun q2 hq2 => ?_)
      refine Ok.pos im ?_
      have j2 := j.p hq2.1
      have r2 : hi q2.2 242 s = hi h 242 s := hq2.1.1 242 s (pK226 (by decide))
      have j3 : jR s hC (wrI q2.2 243 k q2.1) := j2.wx (Or.inr (Or.inl ⟨by decide, by rw [r2]; omega⟩))
      generalize eg3 : wrI q2.2 243 k q2.1 = g3 at j3
      refine Ok.bind (sr_bounded j3.1.2.2.1) (fun q13 hq13 => ?_)
      refine Ok.pos im ?_
      have j13 := j3.p hq13.1
      have r13 : hi q13.2 242 s = hi h 242 s := (hq13.1.1 242 s (pK226 (by decide))).trans ((hiA eg3 242 s (by decide)).trans r2)
      have j14 : jR s hC (wrI q13.2 244 k q13.1) := j13.wx (Or.inr (Or.inl ⟨by decide, by rw [r13]; omega⟩))
      generalize eg14 : wrI q13.2 244 k q13.1 = g14 at j14
      have t3 (z : Nat) : hi g3 226 z = hi q2.2 226 z := hiA eg3 226 z (by decide)
      have t14 (z : Nat) : hi g14 226 z = hi q13.2 226 z := hiA eg14 226 z (by decide)
      refine Ok.bind (sr_must j14.1.2.2.1) (fun q hq => ?_)
      have jq := j14.p hq.1
      have m1 := hq2.1.2.2.2.1
      have m4 := hq13.1.2.2.2.1
      have m5 := hq.1.2.2.2.1
      have b5 := hq.2
      have b4 := hq13.2
      have b1 := hq2.2
      have u5 := hq.1.2.2.2.2.2
      have u4 := hq13.1.2.2.2.2.2
      rw [t3] at m4 b4 u4
      rw [t14] at m5 b5 u5
      rw [t3] at b4
      rw [t14] at b5
      have tq := jq.1.2.2.1.2.1
      refine Ok.le (fun c1 => ?_) (fun c1 => Ok.ret ⟨jq, by omega, fun z => by omega⟩)
      have fz : (hi q 226 13).toInt = 0 := by omega
      refine Ok.pos iy ?_
      have rq (a z : Nat) (h1 : a ≠ 226) : hi q a z = hi g14 a z := hq.1.1 a z (pK226 h1)
      have rq13 (a z : Nat) (h1 : a ≠ 226) : hi q13.2 a z = hi g3 a z := hq13.1.1 a z (pK226 h1)
      have w242 : hi q 242 s = hi h 242 s := (rq 242 s (by decide)).trans ((hiA eg14 242 s (by decide)).trans r13)
      have w244 : hi q 244 k = q13.1 := by rw [rq 244 k (by decide)]; exact hiE eg14
      have w243 : hi q 243 k = q2.1 := by rw [rq 243 k (by decide), hiA eg14 243 k (by decide), rq13 243 k (by decide)]; exact hiE eg3
      have eqn := (jq.2 fz).2.1
      rw [w242] at eqn
      have cq := jq.1.2.2.2.1
      refine Ok.chk (ixT (by omega) (by omega)) (fun c2 => ?_)
      have e20 (i : Nat) (v : Int64) : hi (wrL q 234 i v) 226 20 = hi q 226 20 := rfl
      rw [e20]
      have e19 (i : Nat) (v : Int64) : hi (wrI (wrL q 234 i v) 226 20 (hi q 226 20 + 1)) 226 19 = hi q 226 19 := by
        rw [hi_wrI, if_neg (by decide)]
        rfl
      rw [e19]
      obtain ⟨k1', k2'⟩ := jq.side hs
      refine Ok.pos k1' (Ok.pos k1' ?_)
      rw [k2']
      have e42 (i : Nat) (v : Int64) : hi (wrI (wrL q 234 i v) 226 20 (hi q 226 20 + 1)) 242 s = hi q 242 s := by
        rw [hi_wrI, if_neg (by omega)]
        rfl
      rw [e42]
      have y5 := b5 (by omega)
      have y4 := b4 y5.1
      have y1' := b1 y4.1
      refine Ok.ret ⟨jq.goer hs fz (by rw [w242]; omega) (k := k) (by rw [w242]; omega) (fun z2 => ?_), ?_, fun _ => y1'.1⟩
      · rw [w243, w244]
        have x4 := y4.2.2 (u5 z2)
        have x1 := y1'.2.2 (u4 (u5 z2))
        have f4 := lit_4
        unfold in4
        omega
      · rw [hi_wrI, if_neg (by omega), hi_wrI, if_neg (by decide)]
        show T0 ≤ (hi q 226 11).toInt
        omega
    refine Ok.le (fun _ => fin) (fun c1 => ?_)
    refine Ok.eq (fun c2 => ?_) (fun _ => fin)
    have f5 := adT l3 1 (by omega) (by omega)
    refine Ok.chk (ixT (by omega) (by omega)) (fun c3 => ?_)
    refine Ok.pos iy ?_
    refine Ok.ite (fun _ => ?_) (fun _ => ih h (l3 + 1) j a b (by omega) (by omega) (by omega))
    refine Ok.bind (sr_wrong j.1.2.2.1 (by decide) y0 y1) (fun q32 hq32 => ?_)
    refine (ih q32 (l3 + 1) (j.p hq32.1) (by rw [hq32.1.1 242 s (pK226 (by decide))]; exact a) (by have := hq32.1.2.2.2.1; omega) (by omega) (by omega) (by omega)).mono (fun q hq => ⟨hq.1, hq.2.1, fun z => ?_⟩)
    have := hq.2.2 z
    rw [hq32.2.2.1] at this
    exact this
theorem sr_goer {n : Nat} (hn : 100 ≤ n) (hs : s ≤ 1) (j : jR s hC h) (g5 : (hi h 242 s).toInt < 5) : Ok (F_X12_tellGoer n h) (fun q => jR s hC q ∧ (hi h 226 11).toInt ≤ (hi q 226 11).toInt ∧ ((hi q 226 13).toInt = 0 → (hi h 226 13).toInt = 0)) := by
  obtain ⟨i1, i2⟩ := j.side hs
  have j19 := j.1.2.1.2
  have c8 := j.1.2.2.2.1.2.1
  have t := j.1.2.2.1
  have t1 := t.1
  have f0 := lit_0
  unfold F_X12_tellGoer
  refine Ok.pos i1 ?_
  rw [i2]
  refine Ok.bind (sr_must t) (fun q hq => ?_)
  have f1 := mlT 5 (hi h 226 19) 5 lit_5 (by omega) (by omega)
  have f2 := lit_5
  have f3 := adT (5 * hi h 226 19) (hi h 242 s) (by omega) (by omega)
  have r2 : hi q 242 s = hi h 242 s := hq.1.1 242 s (pK226 (by decide))
  have m1 := hq.1.2.2.2.1
  refine (sr_goerL hs (T0 := (hi h 226 11).toInt) (by omega) (by omega) t1.1 t1.2 n q 0 (j.p hq.1) (by rw [r2]; omega) m1 (by omega) (by omega) (by omega)).mono (fun r hr => ⟨hr.1, hr.2.1, fun z => (hq.2 (hr.2.2 z)).1⟩)
end TM
