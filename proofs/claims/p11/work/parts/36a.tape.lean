/-! THE TAPE: feed, back, read -/
theorem kM.tr {h0 h1 h2 : Hp} (a : kM h0 h1) (b : kM h1 h2) : kM h0 h2 := fun x k q => ⟨(b x k q).1.trans (a x k q).1, (b x k q).2.trans (a x k q).2⟩
theorem kX.tr {h0 h1 h2 : Hp} (a : kX h0 h1) (b : kX h1 h2) : kX h0 h2 := fun x k q => ⟨(b x k q).1.trans (a x k q).1, (b x k q).2.trans (a x k q).2⟩
theorem kX.rf (h : Hp) : kX h h := fun _ _ _ => ⟨rfl, rfl⟩
theorem tp01 {h0 h h1 : Hp} {v : Int32} (e : wrI h 0 1 v = h1) (ix : IX h) (km : kM h0 h) (r : 0 ≤ v.toInt ∧ v.toInt ≤ 2000) : IX h1 ∧ kM h0 h1 ∧ hi h1 0 1 = v := by
  subst e
  have hu : ∀ q ∈ ckk, q.1 = 0 → q.2.1 = 1 → q = (0, 1, 0, 2000) := by decide
  refine ⟨⟨fun q hq => ?_, fun k => ?_, fun k => ?_⟩, fun a k ha => ?_, ?_⟩
  · rw [hi_wrI]
    by_cases z : q.1 = 0 ∧ q.2.1 = 1
    · rw [if_pos z, hu q hq z.1 z.2]
      exact r
    · rw [if_neg z]
      exact ix.1 q hq
  · rw [hi_wrI, if_neg (by omega)]
    exact ix.2.1 k
  · rw [hi_wrI, if_neg (by omega)]
    exact ix.2.2 k
  · rw [hi_wrI, if_neg (by omega)]
    exact km a k ha
  · rw [hi_wrI, if_pos ⟨rfl, rfl⟩]
theorem tp1 {h0 h h1 : Hp} {k : Nat} {v : Int32} (e : wrI h 1 k v = h1) (ix : IX h) (km : kM h0 h) : IX h1 ∧ kM h0 h1 ∧ hi h1 0 1 = hi h 0 1 := by
  subst e
  have hu : ∀ q ∈ ckk, q.1 ≠ 1 := by decide
  refine ⟨⟨fun q hq => ?_, fun k' => ?_, fun k' => ?_⟩, fun a k' ha => ?_, ?_⟩
  · rw [hi_wrI, if_neg (fun z => hu q hq z.1)]
    exact ix.1 q hq
  · rw [hi_wrI, if_neg (by omega)]
    exact ix.2.1 k'
  · rw [hi_wrI, if_neg (by omega)]
    exact ix.2.2 k'
  · rw [hi_wrI, if_neg (by omega)]
    exact km a k' ha
  · rw [hi_wrI, if_neg (by omega)]
theorem tp02 {h0 h h1 : Hp} {v : Int32} (e : wrI h 0 2 v = h1) (ix : IX h) (km : kM h0 h) : IX h1 ∧ kM h0 h1 ∧ hi h1 0 1 = hi h 0 1 := by
  subst e
  have hu : ∀ q ∈ ckk, q.1 = 0 → q.2.1 = 2 → q = (0, 2, -2147483648, 2147483647) := by decide
  refine ⟨⟨fun q hq => ?_, fun k => ?_, fun k => ?_⟩, fun a k ha => ?_, ?_⟩
  · rw [hi_wrI]
    by_cases z : q.1 = 0 ∧ q.2.1 = 2
    · rw [if_pos z, hu q hq z.1 z.2]
      exact rgT v
    · rw [if_neg z]
      exact ix.1 q hq
  · rw [hi_wrI, if_neg (by omega)]
    exact ix.2.1 k
  · rw [hi_wrI, if_neg (by omega)]
    exact ix.2.2 k
  · rw [hi_wrI, if_neg (by omega)]
    exact km a k ha
  · rw [hi_wrI, if_neg (by omega)]
theorem sxl (v : BitVec 32) : v.signExtend 8 = v.setWidth 8 := BitVec.signExtend_eq_setWidth_of_le v (by decide)
theorem byE (x : BitVec 32) (k : Nat) (hk : k ≤ 24) : (x >>> k).setWidth 8 = (x.sshiftRight k).setWidth 8 := by
  apply BitVec.eq_of_getLsbD_eq
  intro i il
  rw [BitVec.getLsbD_setWidth, BitVec.getLsbD_setWidth, BitVec.getLsbD_ushiftRight, BitVec.getLsbD_sshiftRight]
  have h1 : k + i < 32 := by omega
  have h2 : ¬ 32 ≤ i := by omega
  simp [h1, h2]
/-- a byte laid is the same either way -/
theorem byEq (x l : Int32) (h : l = 24 ∨ l = 16 ∨ l = 8 ∨ l = 0) : ((x.toUInt32 >>> (l.toUInt32 &&& Int32.toUInt32 31)).toInt32).toInt8.toInt32 = (x >>> (l &&& 31)).toInt8.toInt32 := by
  apply congrArg
  apply Int8.toBitVec_inj.mp
  rw [Int32.toBitVec_toInt8, Int32.toBitVec_toInt8, sxl, sxl]
  rcases h with rfl | rfl | rfl | rfl
  · exact byE x.toBitVec 24 (by decide)
  · exact byE x.toBitVec 16 (by decide)
  · exact byE x.toBitVec 8 (by decide)
  · exact byE x.toBitVec 0 (by decide)
/-- what feed and back leave as it was -/
def kF (h q : Hp) : Prop := hi q 0 2 = hi h 0 2 ∧ ∀ k, hl q 19 k = hl h 19 k
theorem kF.rf (h : Hp) : kF h h := ⟨rfl, fun _ => rfl⟩
theorem kF.tr {h0 h1 h2 : Hp} (a : kF h0 h1) (b : kF h1 h2) : kF h0 h2 := ⟨b.1.trans a.1, fun k => (b.2 k).trans (a.2 k)⟩
/-- how feed answers, and how many bytes then lie on the tape -/
def fdR (t v t' : Int32) : Prop := (t.toInt ≤ 1980 ∧ v.toInt = t.toInt + 20 ∧ t'.toInt = t.toInt + 20) ∨ (1980 < t.toInt ∧ v.toInt = -1 ∧ t'.toInt = t.toInt)
def bkR (t x v t' : Int32) : Prop := ((0 ≤ x.toInt ∧ x.toInt ≤ t.toInt) ∧ v.toInt = t.toInt - x.toInt ∧ t'.toInt = t.toInt - x.toInt) ∨ ((x.toInt < 0 ∨ t.toInt < x.toInt) ∧ v.toInt = -1 ∧ t'.toInt = t.toInt)
theorem sf_X11_back {h : Hp} {n : Nat} {x1 : Int32} (ix : IX h) : Ok (F_X11_back n h x1) (fun q => (IX q.2 ∧ kM h q.2 ∧ kF h q.2 ∧ ∀ k, hi q.2 1 k = hi h 1 k) ∧ bkR (hi h 0 1) x1 q.1 (hi q.2 0 1)) := by
  have t0 := ix.1 (0, 1, 0, 2000) (by decide)
  have t1 : 0 ≤ (hi h 0 1).toInt ∧ (hi h 0 1).toInt ≤ 2000 := t0
  have f0 := lit_0
  unfold F_X11_back
  refine Ok.lt (fun c1 => Ok.ret ⟨⟨ix, kM.rfl' h, kF.rf h, fun _ => rfl⟩, Or.inr ⟨by omega, lit_m1, rfl⟩⟩) (fun c1 => ?_)
  refine Ok.le (fun c2 => ?_) (fun c2 => Ok.ret ⟨⟨ix, kM.rfl' h, kF.rf h, fun _ => rfl⟩, Or.inr ⟨by omega, lit_m1, rfl⟩⟩)
  have a1 := sbT (hi h 0 1) x1 (by omega) (by omega)
  generalize eg2 : wrI h 0 1 (hi h 0 1 - x1) = g2
  obtain ⟨y1, y2, y3⟩ := tp01 eg2 ix (kM.rfl' h) (by omega)
  refine Ok.ret ⟨⟨y1, y2, ⟨hiK eg2 0 2 (by decide), fun k => by rw [← eg2]; rfl⟩, fun k => hiA eg2 1 k (by decide)⟩, Or.inl ⟨by omega, ?_, ?_⟩⟩
  · show (hi g2 0 1).toInt = _
    rw [y3]; omega
  · show (hi g2 0 1).toInt = _
    rw [y3]; omega
theorem sf_X11_read {h : Hp} {n : Nat} (hn : 618475290624 ≤ n) (ix : IX h) : Ok (F_X11_read n h) (fun q => IX q.2 ∧ kM h q.2 ∧ (hi q.2 0 1).toInt = 0 ∧ ∀ k, hl q.2 19 k = hl h 19 k) := by
  have f0 := lit_0
  unfold F_X11_read
  refine Ok.bind (sf_X7_readText (h0 := h) n h (hi h 0 1) hn ⟨ix, kM.rfl' h, kT.rf h⟩) (fun q1 hq1 => ?_)
  obtain ⟨j1, -⟩ := hq1
  generalize eg1 : wrI q1.2 0 1 0 = g1
  obtain ⟨y1, y2, y3⟩ := tp01 eg1 j1.1 j1.2.1 (by omega)
  have fin (v u : Int32) : Ok (if (q1.1 : Int32) = 0 then ((F_X0_become n (wrI g1 0 2 v) 23 3).bind (fun q14 => ((F_X8_become n q14 30 10).bind (fun q16 => ((F_X6_clear n q16).bind (fun q18 => ((F_X2_clear n q18).bind (fun q20 => some (u, (wrI q20 0 10 0)))))))))) else some (u, (wrI g1 0 2 v))) (fun q => IX q.2 ∧ kM h q.2 ∧ (hi q.2 0 1).toInt = 0 ∧ ∀ k, hl q.2 19 k = hl h 19 k) := by
    generalize eg2 : wrI g1 0 2 v = g2
    obtain ⟨v1, v2, v3⟩ := tp02 eg2 y1 y2
    have j2 : J g2 g2 := ⟨v1, kM.rfl' g2, kT.rf g2⟩
    have l2 (k : Nat) : hl g2 19 k = hl h 19 k := by
      rw [← eg2]
      show hl g1 19 k = _
      rw [← eg1]
      exact j1.2.2.2.2.2 k
    refine Ok.ite (fun _ => ?_) (fun _ => ?_)
    · refine Ok.bind (sf_X0_become (h0 := g2) n g2 23 3 (by omega) j2 bd_23 bd_3) (fun q14 h14 => ?_)
      refine Ok.bind (sf_X8_become (h0 := g2) n q14 30 10 (by omega) h14.1 sc_30 sc_10) (fun q16 h16 => ?_)
      refine Ok.bind (sf_X6_clear (h0 := g2) n q16 (by omega) h16.1) (fun q18 h18 => ?_)
      refine Ok.bind (sf_X2_clear (h0 := g2) n q18 (by omega) h18.1) (fun q20 h20 => ?_)
      generalize eg3 : wrI q20 0 10 0 = g3
      have j3 : J g2 g3 := JwI eg3 h20.1 (by decide)
      refine Ok.ret ⟨j3.1, v2.tr j3.2.1, ?_, fun k => (j3.2.2.2.2.2 k).trans (l2 k)⟩
      show (hi g3 0 1).toInt = 0
      rw [j3.2.2.1, v3, y3]; exact f0
    · refine Ok.ret ⟨v1, v2, ?_, l2⟩
      show (hi g2 0 1).toInt = 0
      rw [v3, y3]; exact f0
  exact Ok.ite (fun _ => fin _ _) (fun _ => fin _ _)
