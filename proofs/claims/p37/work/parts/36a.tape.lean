/-! THE TAPE: feed, back, read -/
theorem kM.tr {h0 h1 h2 : Hp} (a : kM h0 h1) (b : kM h1 h2) : kM h0 h2 := fun x k q => ⟨(b x k q).1.trans (a x k q).1, (b x k q).2.trans (a x k q).2⟩
theorem kX.tr {h0 h1 h2 : Hp} (a : kX h0 h1) (b : kX h1 h2) : kX h0 h2 := fun x k q => ⟨(b x k q).1.trans (a x k q).1, (b x k q).2.trans (a x k q).2⟩
theorem kX.rf (h : Hp) : kX h h := fun _ _ _ => ⟨rfl, rfl⟩
theorem tp01 {h0 h h1 : Hp} {v : Int32} (e : wrI h 0 1 v = h1) (ix : IX h) (km : kM h0 h) (r : 0 ≤ v.toInt ∧ v.toInt ≤ 2000) : IX h1 ∧ kM h0 h1 ∧ hi h1 0 1 = v := by
  subst e
  have hu : ∀ q ∈ ckk, q.1 = 0 → q.2.1 = 1 → q = (0, 1, 0, 2000) := by decide
  refine ⟨⟨fun q hq => ?_, fun k => ?_, fun k => ?_⟩, fun a k ha => ?_, ?_⟩
  · rw [hi_wrI]
    by_cases z : q.1 = 0 ∧ q.2.1 = 1
    · rw [if_pos z, hu q hq z.1 z.2]
      exact r
    · rw [if_neg z]
      exact ix.1 q hq
  · rw [hi_wrI, if_neg (by omega)]
    exact ix.2.1 k
  · rw [hi_wrI, if_neg (by omega)]
    exact ix.2.2 k
  · rw [hi_wrI, if_neg (by omega)]
    exact km a k ha
  · rw [hi_wrI, if_pos ⟨rfl, rfl⟩]
theorem tp1 {h0 h h1 : Hp} {k : Nat} {v : Int32} (e : wrI h 1 k v = h1) (ix : IX h) (km : kM h0 h) : IX h1 ∧ kM h0 h1 ∧ hi h1 0 1 = hi h 0 1 := by
  have j : J h h := ⟨ix, kM.rfl' h, rfl⟩
  have j1 := JwI e j (by simp [nc, ckk])
  exact ⟨j1.1, km.tr j1.2.1, j1.2.2⟩
theorem pt_loop {h0 : Hp} {l1 : Int32} : ∀ (m n : Nat) (h : Hp) (l2 : Int32), IX h → kM h0 h → l2.toInt = 8 * (m : Int) - 8 → m ≤ 4 → (hi h 0 1).toInt + m ≤ 2000 → m + 1 ≤ n → Ok (W_X11_putOnTape n 3 h l1 l2) (fun q => IX q ∧ kM h0 q ∧ (hi q 0 1).toInt = (hi h 0 1).toInt + m) := by
  intro m
  induction m with
  | zero =>
    intro n h l2 ix km a b c d
    obtain ⟨n', rfl⟩ : ∃ n', n = n' + 1 := ⟨n - 1, by omega⟩
    have f0 := lit_0
    rw [u_X11_putOnTape]
    refine Ok.pos rfl ?_
    refine Ok.lt (fun _ => Ok.ret ⟨ix, km, by omega⟩) (fun c1 => by exfalso; omega)
  | succ m ih =>
    intro n h l2 ix km a b c d
    obtain ⟨n', rfl⟩ : ∃ n', n = n' + 1 := ⟨n - 1, by omega⟩
    have f0 := lit_0
    have f2 := lit_2000
    have f1 := lit_1
    have t0 := ix.1 (0, 1, 0, 2000) (by decide)
    have t1 : 0 ≤ (hi h 0 1).toInt := t0.1
    rw [u_X11_putOnTape]
    refine Ok.pos rfl ?_
    refine Ok.lt (fun c1 => by exfalso; omega) (fun c1 => ?_)
    refine Ok.le (fun c2 => by exfalso; omega) (fun c2 => ?_)
    refine Ok.chk (ixT (by omega) (by omega)) (fun c3 => ?_)
    generalize eg1 : wrI h 1 (Int32.toNatClampNeg (hi h 0 1)) _ = g1
    obtain ⟨x1, x2, x3⟩ := tp1 eg1 ix km
    rw [x3]
    have a1 := adT (hi h 0 1) 1 (by omega) (by omega)
    generalize eg2 : wrI g1 0 1 (hi h 0 1 + 1) = g2
    obtain ⟨y1, y2, y3⟩ := tp01 eg2 x1 x2 (by omega)
    generalize ey : (l2 + (-8) : Int32) = y
    have fy := adG ey rfl (show (-8 : Int32).toInt = -8 by decide) (by omega) (by omega)
    refine (ih n' g2 y y1 y2 (by omega) (by omega) (by rw [y3]; omega) (by omega)).mono (fun q hq => ⟨hq.1, hq.2.1, ?_⟩)
    have z := hq.2.2
    rw [y3] at z
    omega
theorem sf_X11_putOnTape {h0 h : Hp} {n : Nat} {x : Int32} (hn : 10 ≤ n) (ix : IX h) (km : kM h0 h) (c : (hi h 0 1).toInt + 4 ≤ 2000) : Ok (F_X11_putOnTape n h x) (fun q => IX q ∧ kM h0 q ∧ (hi q 0 1).toInt = (hi h 0 1).toInt + 4) := by
  unfold F_X11_putOnTape
  exact pt_loop 4 n h 24 ix km (by decide) (by omega) c (by omega)
/-- how feed answers, and how many bytes then lie on the tape -/
def fdR (t v t' : Int32) : Prop := (t.toInt ≤ 1980 ∧ v.toInt = t.toInt + 20 ∧ t'.toInt = t.toInt + 20) ∨ (1980 < t.toInt ∧ v.toInt = -1 ∧ t'.toInt = t.toInt)
def bkR (t x v t' : Int32) : Prop := ((0 ≤ x.toInt ∧ x.toInt ≤ t.toInt) ∧ v.toInt = t.toInt - x.toInt ∧ t'.toInt = t.toInt - x.toInt) ∨ ((x.toInt < 0 ∨ t.toInt < x.toInt) ∧ v.toInt = -1 ∧ t'.toInt = t.toInt)
theorem sf_X11_feed {h : Hp} {n : Nat} {x1 x2 x3 x4 x5 : Int32} (hn : 10 ≤ n) (ix : IX h) : Ok (F_X11_feed n h x1 x2 x3 x4 x5) (fun q => IX q.2 ∧ kM h q.2 ∧ fdR (hi h 0 1) q.1 (hi q.2 0 1)) := by
  have t0 := ix.1 (0, 1, 0, 2000) (by decide)
  have t1 : 0 ≤ (hi h 0 1).toInt ∧ (hi h 0 1).toInt ≤ 2000 := t0
  have f20 := lit_20
  have f2 := lit_2000
  have a1 := adT (hi h 0 1) 20 (by omega) (by omega)
  unfold F_X11_feed
  refine Ok.le (fun c1 => ?_) (fun c1 => Ok.ret ⟨ix, kM.rfl' h, Or.inr ⟨by omega, lit_m1, rfl⟩⟩)
  refine Ok.bind (sf_X11_putOnTape hn ix (kM.rfl' h) (by omega)) (fun q2 h2 => ?_)
  refine Ok.bind (sf_X11_putOnTape hn h2.1 h2.2.1 (by omega)) (fun q4 h4 => ?_)
  refine Ok.bind (sf_X11_putOnTape hn h4.1 h4.2.1 (by omega)) (fun q6 h6 => ?_)
  refine Ok.bind (sf_X11_putOnTape hn h6.1 h6.2.1 (by omega)) (fun q8 h8 => ?_)
  refine Ok.bind (sf_X11_putOnTape hn h8.1 h8.2.1 (by omega)) (fun q h10 => ?_)
  refine Ok.ret ⟨h10.1, h10.2.1, Or.inl ⟨by omega, ?_, ?_⟩⟩
  · show (hi q 0 1).toInt = _
    omega
  · show (hi q 0 1).toInt = _
    omega
theorem sf_X11_back {h : Hp} {n : Nat} {x1 : Int32} (ix : IX h) : Ok (F_X11_back n h x1) (fun q => IX q.2 ∧ kM h q.2 ∧ bkR (hi h 0 1) x1 q.1 (hi q.2 0 1)) := by
  have t0 := ix.1 (0, 1, 0, 2000) (by decide)
  have t1 : 0 ≤ (hi h 0 1).toInt ∧ (hi h 0 1).toInt ≤ 2000 := t0
  have f0 := lit_0
  unfold F_X11_back
  refine Ok.lt (fun c1 => Ok.ret ⟨ix, kM.rfl' h, Or.inr ⟨by omega, lit_m1, rfl⟩⟩) (fun c1 => ?_)
  refine Ok.le (fun c2 => ?_) (fun c2 => Ok.ret ⟨ix, kM.rfl' h, Or.inr ⟨by omega, lit_m1, rfl⟩⟩)
  have a1 := sbT (hi h 0 1) x1 (by omega) (by omega)
  generalize eg2 : wrI h 0 1 (hi h 0 1 - x1) = g2
  obtain ⟨y1, y2, y3⟩ := tp01 eg2 ix (kM.rfl' h) (by omega)
  refine Ok.ret ⟨y1, y2, Or.inl ⟨by omega, ?_, ?_⟩⟩
  · show (hi g2 0 1).toInt = _
    rw [y3]; omega
  · show (hi g2 0 1).toInt = _
    rw [y3]; omega
theorem sf_X11_read {h : Hp} {n : Nat} (hn : 618475290624 ≤ n) (ix : IX h) : Ok (F_X11_read n h) (fun q => IX q.2 ∧ kM h q.2 ∧ (hi q.2 0 1).toInt = 0) := by
  have f0 := lit_0
  unfold F_X11_read
  refine Ok.bind (sf_X7_readText (h0 := h) n h (hi h 0 1) hn ⟨ix, kM.rfl' h, rfl⟩) (fun q1 hq1 => ?_)
  obtain ⟨j1, -⟩ := hq1
  generalize eg1 : wrI q1.2 0 1 0 = g1
  obtain ⟨y1, y2, y3⟩ := tp01 eg1 j1.1 j1.2.1 (by omega)
  have fin (v u : Int32) : Ok (if (q1.1 : Int32) = 0 then ((F_X0_become n (wrI g1 0 2 v) 23 3).bind (fun q14 => ((F_X8_become n q14 30 10).bind (fun q16 => ((F_X6_clear n q16).bind (fun q18 => ((F_X2_clear n q18).bind (fun q20 => some (u, (wrI q20 0 10 0)))))))))) else some (u, (wrI g1 0 2 v))) (fun q => IX q.2 ∧ kM h q.2 ∧ (hi q.2 0 1).toInt = 0) := by
    generalize eg2 : wrI g1 0 2 v = g2
    have j2 : J g1 g2 := JwI eg2 ⟨y1, kM.rfl' g1, rfl⟩ (by decide)
    refine Ok.ite (fun _ => ?_) (fun _ => ?_)
    · refine Ok.bind (sf_X0_become (h0 := g1) n g2 23 3 (by omega) j2 bd_23 bd_3) (fun q14 h14 => ?_)
      refine Ok.bind (sf_X8_become (h0 := g1) n q14 30 10 (by omega) h14.1 sc_30 sc_10) (fun q16 h16 => ?_)
      refine Ok.bind (sf_X6_clear (h0 := g1) n q16 (by omega) h16.1) (fun q18 h18 => ?_)
      refine Ok.bind (sf_X2_clear (h0 := g1) n q18 (by omega) h18.1) (fun q20 h20 => ?_)
      generalize eg3 : wrI q20 0 10 0 = g3
      have j3 : J g1 g3 := JwI eg3 h20.1 (by decide)
      refine Ok.ret ⟨j3.1, y2.tr j3.2.1, ?_⟩
      show (hi g3 0 1).toInt = 0
      rw [j3.2.2, y3]; exact f0
    · refine Ok.ret ⟨j2.1, y2.tr j2.2.1, ?_⟩
      show (hi g2 0 1).toInt = 0
      rw [j2.2.2, y3]; exact f0
  exact Ok.ite (fun _ => fin _ _) (fun _ => fin _ _)
