/-! A WHOLE TEXT: what both hold behind it -/
section R55F
variable {h q : Hp} {n : Nat}
theorem hi_wrA' {h : Hp} {a : Nat} {f : Nat → Int32} (k : Nat) : hi (wrA h a f) a k = f k := by
  show upA (hi h) a f a k = f k
  unfold upA
  rw [if_pos rfl]
theorem bcm3 {a b : Nat} (ab : a ≠ b) : Pc (F_X3_become n h a b) (fun q => ∀ k, k < 4 → hi q a k = hi h b k) := by
  unfold F_X3_become
  generalize e1 : wrI h a 0 (hi h b 0) = g1
  generalize e2 : wrI g1 a 1 (hi g1 b 1) = g2
  generalize e3 : wrI g2 a 2 (hi g2 b 2) = g3
  generalize e4 : wrI g3 a 3 (hi g3 b 3) = g4
  have b1 (k : Nat) : hi g1 b k = hi h b k := hiA e1 b k (fun z => ab z.symm)
  have b2 (k : Nat) : hi g2 b k = hi h b k := (hiA e2 b k (fun z => ab z.symm)).trans (b1 k)
  have b3 (k : Nat) : hi g3 b k = hi h b k := (hiA e3 b k (fun z => ab z.symm)).trans (b2 k)
  refine Pc.ret (fun k hk => ?_)
  have : k = 0 ∨ k = 1 ∨ k = 2 ∨ k = 3 := by omega
  rcases this with rfl | rfl | rfl | rfl
  · rw [hiK e4 a 0 (by decide), hiK e3 a 0 (by decide), hiK e2 a 0 (by decide), hiE e1]
  · rw [hiK e4 a 1 (by decide), hiK e3 a 1 (by decide), hiE e2, b1]
  · rw [hiK e4 a 2 (by decide), hiE e3, b2]
  · rw [hiE e4, b3]
theorem bcm4 {a b : Nat} (ab : a + 2 < b ∨ b + 2 < a) : Pc (F_X4_become n h a b) (fun q => hi q a 3 = hi h b 3 ∧ (∀ k, k < 404 → hi q (a + 1) k = hi h (b + 1) k) ∧ ∀ k, k < 4 → hi q (a + 2) k = hi h (b + 2) k) := by
  unfold F_X4_become
  generalize e1 : wrI h a 3 (hi h b 3) = g1
  generalize e2 : wrA g1 (a + 1) (cpF g1 (b + 1) (a + 1) 404) = g2
  generalize e3 : wrA g2 (a + 2) (cpF g2 (b + 2) (a + 2) 4) = g3
  refine Pc.ret ⟨?_, fun k hk => ?_, fun k hk => ?_⟩
  · rw [hiAA e3 a 3 (by omega), hiAA e2 a 3 (by omega), hiE e1]
  · rw [hiAA e3 (a + 1) k (by omega), ← e2, hi_wrA']
    unfold cpF
    rw [if_pos hk, hiA e1 (b + 1) k (by omega)]
  · rw [← e3, hi_wrA']
    unfold cpF
    rw [if_pos hk, hiAA e2 (b + 2) k (by omega), hiA e1 (b + 2) k (by omega)]
theorem bcm8 {a b : Nat} (ab : a + 3 < b ∨ b + 3 < a) : Pc (F_X8_become n h a b) (fun q => (∀ k, k < 4 → hi q a k = hi h b k) ∧ (∀ k, k < 25 → hi q (a + 1) k = hi h (b + 1) k) ∧ (∀ k, k < 5 → hi q (a + 2) k = hi h (b + 2) k) ∧ ∀ k, k < 5 → hi q (a + 3) k = hi h (b + 3) k) := by
  unfold F_X8_become
  generalize e1 : wrI h a 0 (hi h b 0) = g1
  generalize e2 : wrI g1 a 1 (hi g1 b 1) = g2
  generalize e3 : wrI g2 a 2 (hi g2 b 2) = g3
  generalize e4 : wrI g3 a 3 (hi g3 b 3) = g4
  generalize e5 : wrA g4 (a + 1) (cpF g4 (b + 1) (a + 1) 25) = g5
  generalize e6 : wrA g5 (a + 2) (cpF g5 (b + 2) (a + 2) 5) = g6
  generalize e7 : wrA g6 (a + 3) (cpF g6 (b + 3) (a + 3) 5) = g7
  have r1 (x k : Nat) (n : x ≠ a) : hi g1 x k = hi h x k := hiA e1 x k n
  have r2 (x k : Nat) (n : x ≠ a) : hi g2 x k = hi h x k := (hiA e2 x k n).trans (r1 x k n)
  have r3 (x k : Nat) (n : x ≠ a) : hi g3 x k = hi h x k := (hiA e3 x k n).trans (r2 x k n)
  have r4 (x k : Nat) (n : x ≠ a) : hi g4 x k = hi h x k := (hiA e4 x k n).trans (r3 x k n)
  have s7 (k : Nat) : hi g7 a k = hi g4 a k := by rw [hiAA e7 a k (by omega), hiAA e6 a k (by omega), hiAA e5 a k (by omega)]
  refine Pc.ret ⟨fun k hk => ?_, fun k hk => ?_, fun k hk => ?_, fun k hk => ?_⟩
  · rw [s7]
    have : k = 0 ∨ k = 1 ∨ k = 2 ∨ k = 3 := by omega
    rcases this with rfl | rfl | rfl | rfl
    · rw [hiK e4 a 0 (by decide), hiK e3 a 0 (by decide), hiK e2 a 0 (by decide), hiE e1]
    · rw [hiK e4 a 1 (by decide), hiK e3 a 1 (by decide), hiE e2, r1 b 1 (by omega)]
    · rw [hiK e4 a 2 (by decide), hiE e3, r2 b 2 (by omega)]
    · rw [hiE e4, r3 b 3 (by omega)]
  · rw [hiAA e7 (a + 1) k (by omega), hiAA e6 (a + 1) k (by omega), ← e5, hi_wrA']
    unfold cpF
    rw [if_pos hk, r4 (b + 1) k (by omega)]
  · rw [hiAA e7 (a + 2) k (by omega), ← e6, hi_wrA']
    unfold cpF
    rw [if_pos hk, hiAA e5 (b + 2) k (by omega), r4 (b + 2) k (by omega)]
  · rw [← e7, hi_wrA']
    unfold cpF
    rw [if_pos hk, hiAA e6 (b + 3) k (by omega), hiAA e5 (b + 3) k (by omega), r4 (b + 3) k (by omega)]
theorem BDF.to {T : TT} {a b : Nat} (x : BDF T a h) (e1 : ∀ k, k < 4 → hi q (b + 1) k = hi h (a + 1) k) (e2 : ∀ k, 2 ≤ k → k ≤ 4 → hi q b k = hi h a k) (e3 : hi q (b + 2) 3 = hi h (a + 2) 3) (e4 : ∀ k, k < 404 → hi q (b + 3) k = hi h (a + 3) k) (e5 : ∀ k, k < 4 → hi q (b + 4) k = hi h (a + 4) k) : BDF T b q := by
  obtain ⟨⟨f1, f2, f3, f4⟩, ⟨g1, g2, g3⟩, S, s1, s2, s3⟩ := x
  refine ⟨⟨?_, ?_, fun i hi' => ?_, fun i hi' => ?_⟩, ⟨?_, ?_, ?_⟩, S, ?_, s2, fun k hk => ?_⟩
  · rw [e1 0 (by decide)]; exact f1
  · rw [e1 1 (by decide)]; exact f2
  · rw [e1 2 (by decide)]; exact f3 i hi'
  · rw [e1 3 (by decide)]; exact f4 i hi'
  · rw [e2 2 (by decide) (by decide)]; exact g1
  · rw [e2 3 (by decide) (by decide)]; exact g2
  · rw [e2 4 (by decide) (by decide)]; exact g3
  · rw [e3]; exact s1
  · obtain ⟨p, p1, p2⟩ := s3 k hk
    refine ⟨p, ?_, p2.cg (Nat.le_refl S) (fun j hj => e4 j (by omega))⟩
    rw [e5 k hk]; exact p1
theorem wg_T {T : TT} (v : VT T) : wT T * gT T ≤ 25 ∧ (2 ≤ wT T ∧ wT T ≤ 5) ∧ (2 ≤ gT T ∧ gT T ≤ 5) ∧ T.lw.1 = ((wT T : Nat) : Int) ∧ T.lw.2 = ((gT T : Nat) : Int) := by
  obtain ⟨⟨⟨a1, a2⟩, a3, a4⟩, -⟩ := v
  have w1 : T.lw.1 = ((wT T : Nat) : Int) := by unfold wT; omega
  have w2 : T.lw.2 = ((gT T : Nat) : Int) := by unfold gT; omega
  exact ⟨wg25 (by omega) (by omega), ⟨by omega, by omega⟩, ⟨by omega, by omega⟩, w1, w2⟩
theorem SCF.to {T : TT} {a b : Nat} (v : VT T) (x : SCF T a h) (e1 : ∀ k, k < 4 → hi q b k = hi h a k) (e2 : ∀ k, k < 25 → hi q (b + 1) k = hi h (a + 1) k) (e3 : ∀ k, k < 5 → hi q (b + 2) k = hi h (a + 2) k) (e4 : ∀ k, k < 5 → hi q (b + 3) k = hi h (a + 3) k) : SCF T b q := by
  obtain ⟨⟨x1, x2, x3⟩, x4, x5, x6, x7⟩ := x
  have wg := (wg_T v).1
  have g5 := v.2.2.1.1
  refine ⟨⟨?_, ?_, fun k hk => ?_⟩, fun c hc => ?_, fun c hc => ?_, fun c p hc hp => ?_, fun k hk => ?_⟩
  · rw [e1 0 (by decide)]; exact x1
  · rw [e1 1 (by decide)]; exact x2
  · rw [e4 k hk]; exact x3 k hk
  · rw [e1 2 (by decide)]; exact x4 c hc
  · rw [e1 3 (by decide)]; exact x5 c hc
  · rw [e2 c (by omega)]; exact x6 c p hc hp
  · rw [e3 k (by omega)]; exact x7 k hk
/-- the class's reading -/
def crJ2 (bs : Nat → Int) (m : Nat) (q : Int32 × Hp) : Prop := ∃ qt : Int32 × Hp, rdJ2 bs m qt ∧ q.1 = qt.1 ∧ (q.1.toInt = 0 → ∀ T, CF T qt.2 → BDF T 23 q.2 ∧ SCF T 30 q.2 ∧ hi q.2 38 2 = 0)
theorem cr_read {bs : Nat → Int} {m : Nat} (B : BS bs m) (W : WD h) (tm : (hi h 0 1).toInt = (m : Int)) (hb : ∀ i, i < m → ((vp_nar .byte (hi h 1 i) : Int32) &&& 255).toInt = bs i) : Pc (F_X11_read n h) (crJ2 bs m) := by
  have f0 := lit_0
  unfold F_X11_read
  refine Pc.bind (c_text2 B tm W hb) (fun q1 Q => ?_)
  generalize eg1 : wrI q1.2 0 1 0 = g1
  refine Pc.eq (fun c1 => ?_) (fun c1 => ?_)
  · refine Pc.eq (fun _ => ?_) (fun c2 => absurd c1 c2)
    generalize eg2 : wrI g1 0 2 (-1) = g2
    have r2 (x k : Nat) (nz : x ≠ 0) : hi g2 x k = hi q1.2 x k := (hiA eg2 x k nz).trans (hiA eg1 x k nz)
    -- the band
    have b0 : Pc (F_X0_become n g2 23 3) (fun q => (∀ k, k < 4 → hi q 24 k = hi g2 4 k) ∧ (∀ k, 2 ≤ k → k ≤ 4 → hi q 23 k = hi g2 3 k) ∧ hi q 25 3 = hi g2 5 3 ∧ (∀ k, k < 404 → hi q 26 k = hi g2 6 k) ∧ (∀ k, k < 4 → hi q 27 k = hi g2 7 k) ∧ ∀ x k, x < 23 → hi q x k = hi g2 x k) := by
      unfold F_X0_become
      refine Pc.bind (fun x e => And.intro (bcm3 (by decide) x e) (zf_X3_become x e)) (fun x1 hx1 => ?_)
      obtain ⟨y1, z1⟩ := hx1
      refine Pc.bind (fun x e => And.intro (bcm4 (by decide) x e) (zf_X4_become x e)) (fun x3 hx3 => ?_)
      obtain ⟨⟨y2, y3, y4⟩, z3⟩ := hx3
      generalize d1 : wrI x3 23 2 (hi x3 3 2) = u1
      generalize d2 : wrI u1 23 3 (hi u1 3 3) = u2
      generalize d3 : wrI u2 23 4 (hi u2 3 4) = u3
      have ru (x k : Nat) (nz : x ≠ 23) : hi u3 x k = hi x3 x k := by rw [hiA d3 x k nz, hiA d2 x k nz, hiA d1 x k nz]
      have rx (x k : Nat) (nz : x < 23) : hi x3 x k = hi g2 x k := by rw [z3.1 x k (by omega), z1.1 x k (by omega)]
      refine Pc.ret ⟨fun k hk => ?_, fun k h1 h2 => ?_, ?_, fun k hk => ?_, fun k hk => ?_, fun x k hx => ?_⟩
      · rw [ru 24 k (by decide), z3.1 24 k (by omega)]; exact y1 k hk
      · have : k = 2 ∨ k = 3 ∨ k = 4 := by omega
        rcases this with rfl | rfl | rfl
        · rw [hiK d3 23 2 (by decide), hiK d2 23 2 (by decide), hiE d1, rx 3 2 (by decide)]
        · rw [hiK d3 23 3 (by decide), hiE d2, hiA d1 3 3 (by decide), rx 3 3 (by decide)]
        · rw [hiE d3, hiA d2 3 4 (by decide), hiA d1 3 4 (by decide), rx 3 4 (by decide)]
      · rw [ru 25 3 (by decide), y2, z1.1 5 3 (by omega)]
      · rw [ru 26 k (by decide)]
        exact (y3 k hk).trans (z1.1 6 k (by omega))
      · rw [ru 27 k (by decide)]
        exact (y4 k hk).trans (z1.1 7 k (by omega))
      · rw [ru x k (by omega), rx x k hx]
    refine Pc.bind b0 (fun q14 h14 => ?_)
    obtain ⟨k1, k2, k3, k4, k5, k6⟩ := h14
    refine Pc.bind (fun x e => And.intro (bcm8 (a := 30) (b := 10) (by decide) x e) (zf_X8_become x e)) (fun q16 h16 => ?_)
    obtain ⟨⟨m1, m2, m3, m4⟩, z16⟩ := h16
    refine Pc.bind (fun x e => And.intro (show hi x 38 2 = 0 by
      have e' : some (wrI q16 38 2 0) = some x := e
      rw [← Option.some.inj e', hi_wrI, if_pos ⟨rfl, rfl⟩]) (zf_X6_clear x e)) (fun q18 h18 => ?_)
    obtain ⟨t1, z18⟩ := h18
    refine Pc.bind zf_X2_clear (fun q20 z20 => ?_)
    generalize eg3 : wrI q20 0 10 0 = g3
    refine Pc.ret ⟨q1, Q, rfl, fun _ T ct => ?_⟩
    obtain ⟨v, -, bd, sc⟩ := ct
    have r20 (x k : Nat) (h1 : x ≠ 0) (h2 : x ≠ 38) (h3 : ¬ (201 ≤ x ∧ x ≤ 203)) : hi g3 x k = hi q16 x k := by
      rw [hiA eg3 x k h1, z20.1 x k (by omega), z18.1 x k (by omega)]
    have r16 (x k : Nat) (h1 : 23 ≤ x) (h2 : x ≤ 27) : hi g3 x k = hi q14 x k := by
      rw [r20 x k (by omega) (by omega) (by omega), z16.1 x k (by omega)]
    refine ⟨bd.to (a := 3) (b := 23) (fun k hk => ?_) (fun k h1 h2 => ?_) ?_ (fun k hk => ?_) (fun k hk => ?_), sc.to v (a := 10) (b := 30) (fun k hk => ?_) (fun k hk => ?_) (fun k hk => ?_) (fun k hk => ?_), ?_⟩
    · exact (r16 24 k (by decide) (by decide)).trans ((k1 k hk).trans (r2 4 k (by decide)))
    · exact (r16 23 k (by decide) (by decide)).trans ((k2 k h1 h2).trans (r2 3 k (by decide)))
    · exact (r16 25 3 (by decide) (by decide)).trans (k3.trans (r2 5 3 (by decide)))
    · exact (r16 26 k (by decide) (by decide)).trans ((k4 k hk).trans (r2 6 k (by decide)))
    · exact (r16 27 k (by decide) (by decide)).trans ((k5 k hk).trans (r2 7 k (by decide)))
    · exact (r20 30 k (by decide) (by decide) (by decide)).trans ((m1 k hk).trans ((k6 10 k (by decide)).trans (r2 10 k (by decide))))
    · exact (r20 31 k (by decide) (by decide) (by decide)).trans ((m2 k hk).trans ((k6 11 k (by decide)).trans (r2 11 k (by decide))))
    · exact (r20 32 k (by decide) (by decide) (by decide)).trans ((m3 k hk).trans ((k6 12 k (by decide)).trans (r2 12 k (by decide))))
    · exact (r20 33 k (by decide) (by decide) (by decide)).trans ((m4 k hk).trans ((k6 13 k (by decide)).trans (r2 13 k (by decide))))
    · rw [hiA eg3 38 2 (by decide), z20.1 38 2 (by decide)]
      exact t1
  · refine Pc.eq (fun c2 => absurd c2 c1) (fun _ => Pc.ret ⟨q1, Q, rfl, fun z => absurd (z.trans f0.symm) c1⟩)
/-- what both hold behind a text that holds -/
def ENV (h : Hp) : Prop := ∃ s, s ≤ 1 ∧ ∃ T, (VT T ∧ VLw T) ∧ BDF T 23 h ∧ SCF T 30 h ∧ RF s T h ∧ hi h 38 2 = 0
theorem rd_env {h0 : Hp} (w : Iw h0) : ∃ (n1 : Nat) (q1 : Int32 × Hp) (n2 : Nat) (q2 : Int32 × Hp), F_X11_read n1 h0 = some q1 ∧ F_X12_read n2 q1.2 = some q2 ∧ q1.1 = q2.1 ∧ Iw q2.2 ∧ (q1.1.toInt = 0 → ENV q2.2) := by
  have w0 := w
  obtain ⟨⟨w1, w2, w3, w4⟩, v1, v2, v3, v4⟩ := w0
  have t0 : 0 ≤ (hi h0 0 1).toInt ∧ (hi h0 0 1).toInt ≤ 2000 := w1.1 (0, 1, 0, 2000) (by decide)
  obtain ⟨m, hm⟩ : ∃ m : Nat, (hi h0 0 1).toInt = (m : Int) := ⟨(hi h0 0 1).toInt.toNat, by omega⟩
  have B : BS (tpB h0 m) m := tpB_bs (by omega)
  obtain ⟨q1, e1, ⟨i1, k1, r1, l1⟩, qt, Q, c1, c2, c3⟩ := sj_X11_read (n := 10000000000000) (by decide) w1 B v3 hm (fun i hi' => (if_pos hi').symm)
  have kdp : ∀ k, 0 ≤ (hi q1.2 229 k).toInt := fun k => by rw [(k1 229 k (by decide)).1]; exact w4 k
  have ky : KY q1.2 := fun k hk => by rw [(k1 233 k (by decide)).2]; exact v4 k hk
  have tm2 : (hi q1.2 226 2).toInt = (m : Int) := by rw [(k1 226 2 (by decide)).1, ← w3]; exact hm
  have hb2 : ∀ i, i < m → ((vp_nar .byte (hi q1.2 227 i) : Int32) &&& 255).toInt = tpB h0 m i := fun i hi' => by rw [(k1 227 i (by decide)).1, ← v2 i (by omega)]; exact (if_pos hi').symm
  obtain ⟨q2, e2, ⟨d2, k2, t2, l2, g2⟩, a1, a2, a3⟩ := sj_X12_read (n := 10000000000000) (by decide) (w2.km k1) kdp B ky tm2 hb2 Q
  have iw : Iw q2.2 := by
    refine ⟨⟨i1.kX k2, d2, Int32.toInt_inj.mp ?_, g2⟩, ?_, fun k hk => ?_, fun k hk => ?_, fun k hk => ?_⟩
    · rw [(k2 0 1 (by decide)).1, r1, t2]
    · rw [(k2 0 2 (by decide)).1]
      by_cases z : qt.1.toInt = 0
      · rw [c2 z, a3 z]
      · rw [c3 z, a2 z]
    · exfalso
      rw [(k2 0 1 (by decide)).1, r1] at hk
      omega
    · rw [(k2 19 k (by decide)).2, l1 k]
      exact v3 k hk
    · rw [l2 k, (k1 233 k (by decide)).2]
      exact v4 k hk
  refine ⟨_, q1, _, q2, e1, e2, c1.trans a1, iw, fun z => ?_⟩
  obtain ⟨qu, Q', u1, u2⟩ := cr_read (n := 10000000000000) B v3 hm (fun i hi' => (if_pos hi').symm) q1 e1
  have zu : qu.1.toInt = 0 := by rw [← u1]; exact z
  have z2 : q2.1.toInt = 0 := by rw [← c1.trans a1]; exact z
  obtain ⟨s, hs, T, cf, rf⟩ := sj_X12_read2 (n := 10000000000000) (by decide) (w2.km k1) kdp B ky tm2 hb2 Q' q2 e2 zu z2
  obtain ⟨x1, x2, x3⟩ := u2 z T cf
  have kc (a k : Nat) (l : a < 226) : hi q2.2 a k = hi q1.2 a k := (k2 a k l).1
  refine ⟨s, hs, T, ⟨cf.1, cf.2.1⟩, x1.to (fun k _ => kc 24 k (by decide)) (fun k _ _ => kc 23 k (by decide)) (kc 25 3 (by decide)) (fun k _ => kc 26 k (by decide)) (fun k _ => kc 27 k (by decide)), x2.to cf.1 (fun k _ => kc 30 k (by decide)) (fun k _ => kc 31 k (by decide)) (fun k _ => kc 32 k (by decide)) (fun k _ => kc 33 k (by decide)), rf, ?_⟩
  rw [kc 38 2 (by decide)]
  exact x3
end R55F
