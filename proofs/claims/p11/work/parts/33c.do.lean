/-! what is done, undone, held, told -/
theorem sd_mow {h : Hp} (d : dI h) (n : Nat) (x1 : Int32) (hn : 51539607552 ≤ n) : Ok (F_X12_mow n h x1) (fun q => dP h q.2) := by
  have f0 := cnR d.1
  have f1 := lit_0
  have j := jA.of d
  unfold F_X12_mow
  refine Ok.bind (sa_X12_isCell d.1 n h x1 (by omega) j) (fun q1 hq1 => ?_)
  obtain ⟨e1, y1⟩ := hq1
  rw [e1]
  refine Ok.eq (fun _ => Ok.ret (dP.rf d)) (fun c1 => ?_)
  have c2 := y1.2.2 (by omega)
  have nx := ncT c2.1
  refine Ok.chk (ixT (by omega) (by omega)) (fun c3 => ?_)
  refine Ok.ite (fun _ => Ok.ret (dP.rf d)) (fun _ => ?_)
  refine Ok.bind (sf_X12_copies d.1 n h (by omega) j) (fun q6 hq6 => ?_)
  refine Ok.bind (sa_X12_costsOf d.1 n q6 x1 (by omega) hq6.1 c2.1 c2.2) (fun q8 hq8 => ?_)
  refine Ok.pos c3 ?_
  have f25 := lit_25
  have a25 := adT 25 x1 (by omega) (by omega)
  have n25 := ncT (show 0 ≤ (25 + x1 : Int32).toInt by omega)
  refine Ok.chk (ixT (by omega) (by omega)) (fun c4 => ?_)
  have j1 : jA h (wrI q8.2 263 62 (hi q8.2 263 62 + q8.1)) := JA63g rfl hq8.1 (by decide) (fun _ q => absurd q (by decide))
  have j2 : jA h (wrI (wrI q8.2 263 62 (hi q8.2 263 62 + q8.1)) 263 (Int32.toNatClampNeg x1) 0) := JA63z rfl j1 (by omega) f1
  have j3 : jA h (wrI (wrI (wrI q8.2 263 62 (hi q8.2 263 62 + q8.1)) 263 (Int32.toNatClampNeg x1) 0) 263 (Int32.toNatClampNeg (25 + x1)) 0) := JA63 rfl j2 (fun q => by omega) (fun q => by omega) (fun q => by omega) (fun i il q q2 => by omega)
  refine Ok.bind (sf_X12_records d j3 (by omega)) (fun q12 hq12 => ?_)
  exact Ok.ret hq12
theorem sd_rope {h : Hp} (d : dI h) (n : Nat) (x1 x2 : Int32) (hn : 51539607552 ≤ n) : Ok (F_X12_rope n h x1 x2) (fun q => dP h q.2) := by
  have f0 := cnR d.1
  have f1 := lit_0
  have j := jA.of d
  unfold F_X12_rope
  refine Ok.bind (sf_X12_copies d.1 n h (by omega) j) (fun q1 hq1 => ?_)
  have k1 := dP.ask d hq1.1
  refine Ok.bind (sa_X12_isCell d.1 n q1 x1 (by omega) hq1.1) (fun q3 hq3 => ?_)
  obtain ⟨e3, y3⟩ := hq3
  rw [e3]
  refine Ok.eq (fun _ => Ok.ret k1) (fun c1 => ?_)
  have c2 := y3.2.2 (by omega)
  refine Ok.bind (sa_X12_isRoped d.1 n q1 x1 (by omega) hq1.1) (fun q6 hq6 => ?_)
  rw [hq6.1]
  refine Ok.ite (fun _ => Ok.ret k1) (fun _ => ?_)
  have jw (v : Int32) : jA h (wrI q1 263 50 v) := JA63g rfl hq1.1 (by decide) (fun q => absurd q (by decide))
  refine Ok.ite (fun _ => ?_) (fun _ => ?_)
  · refine Ok.bind (sf_X12_records d (jw _) (by omega)) (fun q10 hq10 => ?_)
    exact Ok.ret hq10
  · refine Ok.chk (ixT (by omega) (by omega)) (fun c3 => ?_)
    refine Ok.ite (fun _ => Ok.ret k1) (fun _ => ?_)
    refine Ok.bind (sa_X12_whoAt d.1 n q1 x1 (by omega) hq1.1) (fun q14 hq14 => ?_)
    rw [hq14.1]
    refine Ok.ite (fun _ => ?_) (fun _ => Ok.ret k1)
    refine Ok.bind (sf_X12_records d (jw _) (by omega)) (fun q17 hq17 => ?_)
    exact Ok.ret hq17
theorem sd_carry {h : Hp} (d : dI h) (n : Nat) (x1 x2 : Int32) (hn : 51539607552 ≤ n) : Ok (F_X12_carry n h x1 x2) (fun q => dP h q.2) := by
  have f0 := cnR d.1
  have g0 := d.1.2.2.2.1
  have f1 := lit_0
  have j := jA.of d
  unfold F_X12_carry
  refine Ok.bind (sf_X12_copies d.1 n h (by omega) j) (fun q1 hq1 => ?_)
  have k1 := dP.ask d hq1.1
  refine Ok.bind (sa_X12_isGoer d.1 n q1 x1 (by omega) hq1.1) (fun q3 hq3 => ?_)
  obtain ⟨e3, y3⟩ := hq3
  rw [e3]
  refine Ok.eq (fun _ => Ok.ret k1) (fun c1 => ?_)
  have c2 := y3.2.2 (by omega)
  refine Ok.bind (sa_X12_isCell d.1 n q1 x2 (by omega) hq1.1) (fun q6 hq6 => ?_)
  obtain ⟨e6, y6⟩ := hq6
  rw [e6]
  refine Ok.eq (fun _ => Ok.ret k1) (fun c3 => ?_)
  have c4 := y6.2.2 (by omega)
  refine Ok.bind (sa_X12_isRoped d.1 n q1 x2 (by omega) hq1.1) (fun q9 hq9 => ?_)
  rw [hq9.1]
  refine Ok.ite (fun _ => ?_) (fun _ => Ok.ret k1)
  have f51 := lit_51
  have a51 := adT 51 x1 (by omega) (by omega)
  have n51 := ncT (show 0 ≤ (51 + x1 : Int32).toInt by omega)
  refine Ok.chk (ixT (by omega) (by omega)) (fun c5 => ?_)
  refine Ok.ite (fun _ => Ok.ret k1) (fun _ => ?_)
  refine Ok.pos c5 ?_
  refine Ok.bind (sf_X12_records d (JA63g rfl hq1.1 (by omega) (fun _ _ => ⟨c4.1, c4.2⟩)) (by omega)) (fun q15 hq15 => ?_)
  exact Ok.ret hq15
theorem sd_beats {h : Hp} (d : dI h) (n : Nat) (x1 : Int32) (hn : 1717986918400 ≤ n) : Ok (F_X12_beats n h x1) (fun q => dP h q.2) := by
  have f1 := lit_0
  have j := jA.of d
  unfold F_X12_beats
  refine Ok.bind (sa_X12_isLong d.1 n h x1 (by omega) j) (fun q1 hq1 => ?_)
  rw [hq1.1]
  refine Ok.ite (fun _ => Ok.ret (dP.rf d)) (fun _ => ?_)
  refine Ok.ite (fun _ => Ok.ret (dP.rf d)) (fun _ => ?_)
  refine Ok.bind (sf_X12_copies d.1 n h (by omega) j) (fun q5 hq5 => ?_)
  refine Ok.bind (sf_X12_goes d.1 n q5 x1 (by omega) hq5.1) (fun q7 hq7 => ?_)
  refine Ok.bind (sf_X12_records d hq7.1 (by omega)) (fun q9 hq9 => ?_)
  exact Ok.ret hq9
/-- the row that goes on is another one: nothing else but how many can be undone has changed -/
theorem now_end {h q : Hp} (d : dI h) (e1 : ∀ a k, a ≠ 262 → ¬ (a = 226 ∧ k = 59) → hi q a k = hi h a k) (e2 : ∀ a k, hl q a k = hl h a k) {f : Nat → Int32} (e3 : ∀ k, k < 63 → hi q 262 k = f k) (r : rwO (cnN h) f) (o : ovO f) (u : 0 ≤ (hi q 226 59).toInt ∧ (hi q 226 59).toInt ≤ (hi h 226 59).toInt) : dP h q := by
  refine d.mk ⟨e1 226 18 (by decide) (by decide), fun a k h1 h2 => e1 a k (by omega) (by omega), fun k => e1 264 k (by decide) (by omega)⟩ (fun a k ha => ⟨e1 a k (by omega) (by omega), e2 a k⟩) ⟨e1 226 2 (by decide) (by decide), e1 226 17 (by decide) (by decide)⟩ (fun k => e2 233 k) (r.cg e3) (o.cg e3) (d.2.2.1.cg (fun k _ => e1 263 k (by decide) (by omega))) (d.2.2.2.1.cg (fun k _ => e1 263 k (by decide) (by omega))) (fun k => ?_) ?_ ?_ (fun v hv => ?_) (hdO.cg (fun k => e1 273 k (by decide) (by omega)) (fun k => e1 274 k (by decide) (by omega)) d.2.2.2.2.2.2)
  · rw [e1 265 k (by decide) (by omega)]
    exact d.2.2.2.2.1 k
  · rw [e1 226 65 (by decide) (by decide)]
    exact d.1.2.2.2.2.2.2.2.2.1
  · have := d.1.2.2.2.2.2.2.2.2.2
    omega
  · have z := d.2.2.2.2.2.1 v (by omega)
    exact ⟨z.1.cg (fun k _ => e1 266 _ (by decide) (by omega)), z.2.cg (fun k _ => e1 266 _ (by decide) (by omega))⟩
theorem sd_undo {h : Hp} (d : dI h) (n : Nat) (hn : 100 ≤ n) : Ok (F_X12_undo n h) (fun q => dP h q.2) := by
  have u := d.1.2.2.2.2.2.2.2.2.2
  have f0 := lit_0
  have n0 := ncT (show 0 ≤ (0 : Int32).toInt by omega)
  unfold F_X12_undo
  refine Ok.eq (fun _ => Ok.ret (dP.rf d)) (fun c1 => ?_)
  generalize ey : (hi h 226 59 - 1 : Int32) = y
  have f1 := lit_1
  have fy := sbG ey rfl lit_1 (by omega) (by omega)
  have ny := ncT (show 0 ≤ y.toInt by omega)
  generalize eg : wrI h 226 59 y = g
  have gU : hi g 226 59 = y := hiE eg
  refine cp_undo (hS := g) (by rw [gU]; omega) (by rw [gU]; omega) (fun q z => ?_) n g 0 (by omega) (by omega) (by rw [show Int32.toNatClampNeg 0 = 0 by omega]; exact cpI.zero _ _ _ _ g) (by omega)
  have z2 := d.2.2.2.2.2.1 (Int32.toNatClampNeg y) (by omega)
  refine now_end (q := q) d (fun a k n1 n2 => ?_) (fun a k => ?_) (f := hyO h 266 (Int32.toNatClampNeg y)) (fun k hk => ?_) z2.1 z2.2 ?_
  · rw [z.1.1 a k n1, ← eg, hi_wrI, if_neg n2]
  · rw [z.1.2 a k, ← eg]
    rfl
  · rw [z.2.1 k hk, gU, hiA eg 266 _ (by decide)]
    rfl
  · rw [z.1.1 226 59 (by decide), gU]
    omega
theorem sd_restore {h : Hp} (d : dI h) (n : Nat) (x1 : Int32) (hn : 100 ≤ n) : Ok (F_X12_restore n h x1) (fun q => dP h q.2) := by
  have u := d.1.2.2.2.2.2.2.2.2.2
  have f0 := lit_0
  have f2 := lit_2
  have n0 := ncT (show 0 ≤ (0 : Int32).toInt by omega)
  unfold F_X12_restore
  refine Ok.bind (sa_X12_in d.1 n h x1 0 2 (by omega) (jA.of d)) (fun q4 hq4 => ?_)
  obtain ⟨e4, y4⟩ := hq4
  rw [e4]
  refine Ok.eq (fun _ => Ok.ret (dP.rf d)) (fun c1 => ?_)
  have c2 := y4.2.2 (by omega)
  have nx := ncT (show 0 ≤ x1.toInt by omega)
  refine Ok.chk (ixT (by omega) (by omega)) (fun c3 => ?_)
  refine Ok.eq (fun _ => Ok.ret (dP.rf d)) (fun c4 => ?_)
  have z2 := d.2.2.2.2.2.2 (Int32.toNatClampNeg x1) (by omega) (by rw [f0] at c4; exact c4)
  refine cp_restore (hS := h) (by omega) (by omega) (fun q z => ?_) n h 0 (by omega) (by omega) (by rw [show Int32.toNatClampNeg 0 = 0 by omega]; exact cpI.zero _ _ _ _ h) (by omega)
  refine now_end (q := wrI q 226 59 0) d (fun a k n1 n2 => ?_) (fun a k => z.1.2 a k) (f := hyO h 274 (Int32.toNatClampNeg x1)) (fun k hk => ?_) z2.1 z2.2 ?_
  · rw [hi_wrI, if_neg n2, z.1.1 a k n1]
  · rw [hi_wrI, if_neg (fun w => absurd w.1 (by decide)), z.2.1 k hk]
    rfl
  · rw [hi_wrI, if_pos ⟨rfl, rfl⟩]
    omega
theorem vpb1 : (vp_nar .boolean (1 : Int32)) = 1 := by decide
theorem sd_hold {h : Hp} (d : dI h) (n : Nat) (x1 : Int32) (hn : 100 ≤ n) : Ok (F_X12_hold n h x1) (fun q => dP h q.2 ∧ q.1.toInt = if 0 ≤ x1.toInt ∧ x1.toInt ≤ 2 then 1 else 0) := by
  have f0 := lit_0
  have f2 := lit_2
  have f1 := lit_1
  have n0 := ncT (show 0 ≤ (0 : Int32).toInt by omega)
  unfold F_X12_hold
  refine Ok.bind (Ok.mono (P := fun q => q.2 = h ∧ ((q.1.toInt = 1 ∧ 0 ≤ x1.toInt ∧ x1.toInt ≤ 2) ∨ (q.1.toInt = 0 ∧ ¬ (0 ≤ x1.toInt ∧ x1.toInt ≤ 2)))) (Q := fun q => q.2 = h ∧ ((q.1.toInt = 1 ∧ 0 ≤ x1.toInt ∧ x1.toInt ≤ 2) ∨ (q.1.toInt = 0 ∧ ¬ (0 ≤ x1.toInt ∧ x1.toInt ≤ 2)))) ?_ (fun q hq => hq)) (fun q4 hq4 => ?_)
  · unfold F_X12_in
    refine Ok.lt (fun c => Ok.ret ⟨rfl, Or.inr ⟨lit_0, by omega⟩⟩) (fun c => ?_)
    exact Ok.lt (fun c2 => Ok.ret ⟨rfl, Or.inr ⟨lit_0, by omega⟩⟩) (fun c2 => Ok.ret ⟨rfl, Or.inl ⟨lit_1, by omega, by omega⟩⟩)
  · obtain ⟨e4, y4⟩ := hq4
    rw [e4]
    refine Ok.eq (fun c1 => ?_) (fun c1 => ?_)
    · refine Ok.ret ⟨dP.rf d, ?_⟩
      rw [if_neg (by omega)]
      exact lit_0
    · have c2 : 0 ≤ x1.toInt ∧ x1.toInt ≤ 2 := by omega
      rw [if_pos c2]
      have nx := ncT c2.1
      refine Ok.chk (ixT (by omega) (by omega)) (fun c3 => ?_)
      generalize eg : wrI h 273 (Int32.toNatClampNeg x1) 1 = g
      refine cp_hold (hS := g) c2.1 c2.2 (fun q z => ⟨?_, lit_1⟩) n g 0 (by omega) (by omega) (by rw [show Int32.toNatClampNeg 0 = 0 by omega]; exact cpI.zero _ _ _ _ g) (by omega)
      have e1 (a k : Nat) (n1 : a ≠ 274) (n2 : a ≠ 273) : hi q a k = hi h a k := by
        rw [z.1.1 a k n1, hiA eg a k n2]
      have kl (a k : Nat) : hl q a k = hl h a k := by
        rw [z.1.2 a k, ← eg]
        rfl
      refine d.mk ⟨e1 226 18 (by decide) (by decide), fun a k h1 h2 => e1 a k (by omega) (by omega), fun k => e1 264 k (by decide) (by decide)⟩ (fun a k ha => ⟨e1 a k (by omega) (by omega), kl a k⟩) ⟨e1 226 2 (by decide) (by decide), e1 226 17 (by decide) (by decide)⟩ (fun k => kl 233 k) (d.1.2.2.2.2.2.2.1.cg (fun k _ => e1 262 k (by decide) (by decide))) (d.1.2.2.2.2.2.2.2.1.cg (fun k _ => e1 262 k (by decide) (by decide))) (d.2.2.1.cg (fun k _ => e1 263 k (by decide) (by decide))) (d.2.2.2.1.cg (fun k _ => e1 263 k (by decide) (by decide))) (fun k => ?_) ?_ ?_ (hsO.cg (e1 226 59 (by decide) (by decide)) (fun k => e1 266 k (by decide) (by decide)) d.2.2.2.2.2.1) (fun s hs hh => ?_)
      · rw [e1 265 k (by decide) (by decide)]
        exact d.2.2.2.2.1 k
      · rw [e1 226 65 (by decide) (by decide)]
        exact d.1.2.2.2.2.2.2.2.2.1
      · rw [e1 226 59 (by decide) (by decide)]
        exact d.1.2.2.2.2.2.2.2.2.2
      · by_cases w : s = Int32.toNatClampNeg x1
        · subst w
          have e3 (k : Nat) (hk : k < 63) : hyO q 274 (Int32.toNatClampNeg x1) k = hi h 262 k := by
            show hi q 274 _ = _
            rw [z.2.1 k hk, hiA eg 262 k (by decide)]
          exact ⟨d.1.2.2.2.2.2.2.1.cg e3, d.1.2.2.2.2.2.2.2.1.cg e3⟩
        · have e3 (k : Nat) (hk : k < 63) : hyO q 274 s k = hyO h 274 s k := by
            show hi q 274 _ = hi h 274 _
            rw [z.2.2 _ (fun k' hk' => by show 63 * s + k ≠ 63 * Int32.toNatClampNeg x1 + k'; omega), hiA eg 274 _ (by decide)]
          have e5 : hi q 273 s = hi h 273 s := by
            rw [z.1.1 273 s (by decide), hiK eg 273 s w]
          rw [e5] at hh
          have z2 := d.2.2.2.2.2.2 s hs hh
          exact ⟨z2.1.cg e3, z2.2.cg e3⟩
/-- told ones: nothing else has changed -/
theorem told_end {h q : Hp} (d : dI h) (e1 : ∀ a k, a ≠ 271 → a ≠ 272 → ¬ (a = 226 ∧ k = 65) → hi q a k = hi h a k) (e2 : ∀ a k, hl q a k = hl h a k) (t : 0 ≤ (hi q 226 65).toInt ∧ (hi q 226 65).toInt ≤ 20) : dP h q := by
  refine d.mk ⟨e1 226 18 (by decide) (by decide) (by decide), fun a k h1 h2 => e1 a k (by omega) (by omega) (by omega), fun k => e1 264 k (by decide) (by decide) (by omega)⟩ (fun a k ha => ⟨e1 a k (by omega) (by omega) (by omega), e2 a k⟩) ⟨e1 226 2 (by decide) (by decide) (by decide), e1 226 17 (by decide) (by decide) (by decide)⟩ (fun k => e2 233 k) (d.1.2.2.2.2.2.2.1.cg (fun k _ => e1 262 k (by decide) (by decide) (by omega))) (d.1.2.2.2.2.2.2.2.1.cg (fun k _ => e1 262 k (by decide) (by decide) (by omega))) (d.2.2.1.cg (fun k _ => e1 263 k (by decide) (by decide) (by omega))) (d.2.2.2.1.cg (fun k _ => e1 263 k (by decide) (by decide) (by omega))) (fun k => ?_) t ?_ (hsO.cg (e1 226 59 (by decide) (by decide) (by decide)) (fun k => e1 266 k (by decide) (by decide) (by omega)) d.2.2.2.2.2.1) (hdO.cg (fun k => e1 273 k (by decide) (by decide) (by omega)) (fun k => e1 274 k (by decide) (by decide) (by omega)) d.2.2.2.2.2.2)
  · rw [e1 265 k (by decide) (by decide) (by omega)]
    exact d.2.2.2.2.1 k
  · rw [e1 226 59 (by decide) (by decide) (by decide)]
    exact d.1.2.2.2.2.2.2.2.2.2
theorem sd_forget {h : Hp} (d : dI h) (n : Nat) : Ok (F_X12_forget n h) (fun q => dP h q.2) := by
  have f0 := lit_0
  unfold F_X12_forget
  refine Ok.ret (told_end (q := wrI h 226 65 0) d (fun a k _ _ n3 => ?_) (fun a k => rfl) ?_)
  · rw [hi_wrI, if_neg n3]
  · rw [hi_wrI, if_pos ⟨rfl, rfl⟩]
    omega
theorem sd_tell {h : Hp} (d : dI h) (n : Nat) (x1 x2 : Int32) (hn : 100 ≤ n) : Ok (F_X12_tell n h x1 x2) (fun q => dP h q.2) := by
  have t := d.1.2.2.2.2.2.2.2.2.1
  have f20 := lit_20
  have f1 := lit_1
  unfold F_X12_tell
  refine Ok.eq (fun _ => Ok.ret (dP.rf d)) (fun c1 => ?_)
  refine Ok.bind (sa_X12_isTime d.1 n h x1 (by omega) (jA.of d)) (fun q2 hq2 => ?_)
  rw [hq2.1]
  refine Ok.ite (fun _ => Ok.ret (dP.rf d)) (fun _ => ?_)
  refine Ok.chk (ixT (by omega) (by omega)) (fun c2 => ?_)
  generalize eg : wrI h 271 (Int32.toNatClampNeg (hi h 226 65)) x1 = g
  have e1 : hi g 226 65 = hi h 226 65 := hiA eg 226 65 (by decide)
  rw [e1]
  refine Ok.pos c2 ?_
  generalize eg2 : wrI g 272 (Int32.toNatClampNeg (hi h 226 65)) x2 = g2
  have e2 : hi g2 226 65 = hi h 226 65 := (hiA eg2 226 65 (by decide)).trans e1
  rw [e2]
  have a1 := adT (hi h 226 65) 1 (by omega) (by omega)
  refine Ok.ret (told_end (q := wrI g2 226 65 (hi h 226 65 + 1)) d (fun a k n1 n2 n3 => ?_) (fun a k => ?_) ?_)
  · rw [hi_wrI, if_neg n3, hiA eg2 a k n2, hiA eg a k n1]
  · show hl g2 a k = _
    rw [← eg2, ← eg]
    rfl
  · rw [hi_wrI, if_pos ⟨rfl, rfl⟩]
    omega
