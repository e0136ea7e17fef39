/-! THE TAPE: the reference's -/
def ltF (h q : Hp) : Prop := (∀ a k, a ≠ 227 → ¬ (a = 226 ∧ k = 2) → hi q a k = hi h a k) ∧ (∀ a k, hl q a k = hl h a k)
theorem ltF.tr {h0 h1 h2 : Hp} (a : ltF h0 h1) (b : ltF h1 h2) : ltF h0 h2 := ⟨fun x k p q => (b.1 x k p q).trans (a.1 x k p q), fun x k => (b.2 x k).trans (a.2 x k)⟩
/-- what feed and back keep of the reference -/
def tpP (h q : Hp) : Prop := dI q ∧ kX h q ∧ hi q 226 17 = hi h 226 17 ∧ (∀ k, hl q 233 k = hl h 233 k) ∧ ∀ k, hi q 229 k = hi h 229 k
theorem ltF.dI {h q : Hp} (l : ltF h q) (t0 : 0 ≤ (hi q 226 2).toInt ∧ (hi q 226 2).toInt ≤ 2000) (d : dI h) : tpP h q := by
  refine ⟨d.fr rfl (fun a k _ n f => l.1 a k ?_ ?_) t0, fun a k ha => ⟨l.1 a k (by omega) (by omega), l.2 a k⟩, l.1 226 17 (by decide) (by decide), fun k => l.2 233 k, fun k => l.1 229 k (by decide) (by omega)⟩
  · unfold frB at f; have := d.1.1; omega
  · unfold frB at f; omega
theorem tpP.rf {h : Hp} (d : dI h) : tpP h h := ⟨d, kX.rf h, rfl, fun _ => rfl, fun _ => rfl⟩
theorem ltF.rf (h : Hp) : ltF h h := ⟨fun _ _ _ _ => rfl, fun _ _ => rfl⟩
/-- both tapes, byte by byte -/
def tpQ (h0 h q h' : Hp) (m : Nat) (q' : Hp) : Prop := (IX q ∧ kM h0 q ∧ kF h q ∧ (hi q 0 1).toInt = (hi h 0 1).toInt + m) ∧ ltF h' q' ∧ (hi q' 226 2).toInt = (hi h 0 1).toInt + m ∧ ∀ k : Nat, (k : Int) < (hi h 0 1).toInt + m → hi q 1 k = hi q' 227 k
theorem tp_loop {h0 : Hp} {l1 : Int32} : ∀ (m n : Nat) (h h' : Hp) (l2 : Int32), IX h → kM h0 h → l2.toInt = 8 * (m : Int) - 8 → m ≤ 4 → (hi h 0 1).toInt + m ≤ 2000 → (hi h' 226 2).toInt = (hi h 0 1).toInt → (∀ k : Nat, (k : Int) < (hi h 0 1).toInt → hi h 1 k = hi h' 227 k) → m + 1 ≤ n → Ok (W_X11_putOnTape n 3 h l1 l2) (fun q => Ok (W_X12_lays n 3 h' l1 l2) (tpQ h0 h q h' m)) := by
  intro m
  induction m with
  | zero =>
    intro n h h' l2 ix km a b c t e d
    obtain ⟨n', rfl⟩ : ∃ n', n = n' + 1 := ⟨n - 1, by omega⟩
    have f0 := lit_0
    rw [u_X11_putOnTape, u_X12_lays]
    refine Ok.pos rfl ?_
    refine Ok.lt (fun _ => Ok.ret ?_) (fun c1 => by exfalso; omega)
    refine Ok.pos rfl ?_
    refine Ok.lt (fun _ => Ok.ret ⟨⟨ix, km, kF.rf h, by omega⟩, ltF.rf h', by omega, fun k hk => e k (by omega)⟩) (fun c1 => by exfalso; omega)
  | succ m ih =>
    intro n h h' l2 ix km a b c t e d
    obtain ⟨n', rfl⟩ : ∃ n', n = n' + 1 := ⟨n - 1, by omega⟩
    have f0 := lit_0
    have f2 := lit_2000
    have f1 := lit_1
    have t0 := ix.1 (0, 1, 0, 2000) (by decide)
    have t1 : 0 ≤ (hi h 0 1).toInt := t0.1
    have l24 : l2 = 24 ∨ l2 = 16 ∨ l2 = 8 ∨ l2 = 0 := by
      rcases (show m = 0 ∨ m = 1 ∨ m = 2 ∨ m = 3 by omega) with rfl | rfl | rfl | rfl
      · exact Or.inr (Or.inr (Or.inr (Int32.toInt_inj.mp (a.trans (by decide)))))
      · exact Or.inr (Or.inr (Or.inl (Int32.toInt_inj.mp (a.trans (by decide)))))
      · exact Or.inr (Or.inl (Int32.toInt_inj.mp (a.trans (by decide))))
      · exact Or.inl (Int32.toInt_inj.mp (a.trans (by decide)))
    have eb := byEq l1 l2 l24
    have et : hi h' 226 2 = hi h 0 1 := Int32.toInt_inj.mp t
    rw [u_X11_putOnTape, u_X12_lays]
    refine Ok.pos rfl ?_
    refine Ok.lt (fun c1 => by exfalso; omega) (fun c1 => ?_)
    refine Ok.le (fun c2 => by exfalso; omega) (fun c2 => ?_)
    refine Ok.chk (ixT (by omega) (by omega)) (fun c3 => ?_)
    rw [eb]
    generalize ((l1 : Int32) >>> ((l2 : Int32) &&& 31)).toInt8.toInt32 = bb
    generalize eg1 : wrI h 1 (Int32.toNatClampNeg (hi h 0 1)) bb = g1
    obtain ⟨x1, x2, x3⟩ := tp1 eg1 ix km
    rw [x3]
    have a1 := adT (hi h 0 1) 1 (by omega) (by omega)
    generalize eg2 : wrI g1 0 1 (hi h 0 1 + 1) = g2
    obtain ⟨y1, y2, y3⟩ := tp01 eg2 x1 x2 (by omega)
    generalize ey : (l2 + (-8) : Int32) = y
    have fy := adG ey rfl (show (-8 : Int32).toInt = -8 by decide) (by omega) (by omega)
    have nt := ncT t1
    generalize eg3 : wrI h' 227 (Int32.toNatClampNeg (hi h 0 1)) bb = g3
    have z3 : hi g3 226 2 = hi h 0 1 := (hiA eg3 226 2 (by decide)).trans et
    generalize eg4 : wrI g3 226 2 (hi h 0 1 + 1) = g4
    have z4 : hi g4 226 2 = hi h 0 1 + 1 := hiE eg4
    have fr : ltF h' g4 := by
      refine ⟨fun x k p q => ?_, fun x k => ?_⟩
      · rw [← eg4, hi_wrI, if_neg q]
        exact hiA eg3 x k p
      · rw [← eg4]
        show hl g3 x k = _
        rw [← eg3]
        rfl
    have ee (k : Nat) (hk : (k : Int) < (hi g2 0 1).toInt) : hi g2 1 k = hi g4 227 k := by
      rw [y3] at hk
      rw [hiA eg2 1 k (by decide), hiA eg4 227 k (by decide), ← eg1, ← eg3, hi_wrI, hi_wrI]
      by_cases z : k = Int32.toNatClampNeg (hi h 0 1)
      · rw [if_pos ⟨rfl, z⟩, if_pos ⟨rfl, z⟩]
      · rw [if_neg (fun w => z w.2), if_neg (fun w => z w.2)]
        exact e k (by omega)
    refine (ih n' g2 g4 y y1 y2 (by omega) (by omega) (by rw [y3]; omega) (by rw [z4, y3]) ee (by omega)).mono (fun q hq => ?_)
    refine Ok.pos rfl ?_
    refine Ok.lt (fun c1 => by exfalso; omega) (fun c1 => ?_)
    rw [et]
    refine Ok.pos c3 ?_
    rw [eg3, z3, eg4]
    refine hq.mono (fun q' hq' => ?_)
    obtain ⟨⟨u1, u2, u3, u4⟩, u5, u6, u7⟩ := hq'
    rw [y3] at u4 u6 u7
    have kf : kF h g2 := by
      refine ⟨?_, fun k => ?_⟩
      · rw [hiK eg2 0 2 (by decide), hiA eg1 0 2 (by decide)]
      · rw [← eg2]
        show hl g1 19 k = _
        rw [← eg1]
        rfl
    exact ⟨⟨u1, u2, kf.tr u3, by omega⟩, fr.tr u5, by omega, fun k hk => u7 k (by omega)⟩
theorem tp_word {h0 h h' : Hp} {n : Nat} {x : Int32} (hn : 10 ≤ n) (ix : IX h) (km : kM h0 h) (c : (hi h 0 1).toInt + 4 ≤ 2000) (t : (hi h' 226 2).toInt = (hi h 0 1).toInt) (e : ∀ k : Nat, (k : Int) < (hi h 0 1).toInt → hi h 1 k = hi h' 227 k) : Ok (F_X11_putOnTape n h x) (fun q => Ok (F_X12_lays n h' x) (tpQ h0 h q h' 4)) := by
  unfold F_X11_putOnTape F_X12_lays
  exact tp_loop 4 n h h' 24 ix km (by decide) (by omega) c t e (by omega)
def fdP (h h' : Hp) (q q' : Int32 × Hp) : Prop := (IX q.2 ∧ kM h q.2 ∧ kF h q.2) ∧ ltF h' q'.2 ∧ q.1 = q'.1 ∧ hi q.2 0 1 = hi q'.2 226 2 ∧ (0 ≤ (hi q'.2 226 2).toInt ∧ (hi q'.2 226 2).toInt ≤ 2000) ∧ ∀ k : Nat, (k : Int) < (hi q.2 0 1).toInt → hi q.2 1 k = hi q'.2 227 k
set_option maxHeartbeats 4000000 in
theorem fd_both {h h' : Hp} {n : Nat} {x1 x2 x3 x4 x5 : Int32} (hn : 10 ≤ n) (ix : IX h) (t : hi h 0 1 = hi h' 226 2) (e : ∀ k : Nat, (k : Int) < (hi h 0 1).toInt → hi h 1 k = hi h' 227 k) : Ok (F_X11_feed n h x1 x2 x3 x4 x5) (fun q => Ok (F_X12_feed n h' x1 x2 x3 x4 x5) (fdP h h' q)) := by
  have t0 := ix.1 (0, 1, 0, 2000) (by decide)
  have t1 : 0 ≤ (hi h 0 1).toInt ∧ (hi h 0 1).toInt ≤ 2000 := t0
  have f20 := lit_20
  have f2 := lit_2000
  have a1 := adT (hi h 0 1) 20 (by omega) (by omega)
  have ti := congrArg Int32.toInt t
  unfold F_X11_feed F_X12_feed
  rw [← t]
  refine Ok.le (fun c1 => ?_) (fun c1 => Ok.ret ?_)
  · obtain ⟨p1, e1, p1', e1', ⟨i1, k1, f1, s1⟩, r1, s1', b1⟩ := tp_word (h0 := h) (x := x1) hn ix (kM.rfl' h) (by omega) (by omega) e
    obtain ⟨p2, e2, p2', e2', ⟨i2, k2, f2', s2⟩, r2, s2', b2⟩ := tp_word (h0 := h) (h' := p1') (x := x2) hn i1 k1 (by omega) (by omega) (fun k hk => b1 k (by omega))
    obtain ⟨p3, e3, p3', e3', ⟨i3, k3, f3, s3⟩, r3, s3', b3⟩ := tp_word (h0 := h) (h' := p2') (x := x3) hn i2 k2 (by omega) (by omega) (fun k hk => b2 k (by omega))
    obtain ⟨p4, e4, p4', e4', ⟨i4, k4, f4, s4⟩, r4, s4', b4⟩ := tp_word (h0 := h) (h' := p3') (x := x4) hn i3 k3 (by omega) (by omega) (fun k hk => b3 k (by omega))
    obtain ⟨p5, e5, p5', e5', ⟨i5, k5, f5, s5⟩, r5, s5', b5⟩ := tp_word (h0 := h) (h' := p4') (x := x5) hn i4 k4 (by omega) (by omega) (fun k hk => b4 k (by omega))
    have es : hi p5 0 1 = hi p5' 226 2 := Int32.toInt_inj.mp (by omega)
    refine ⟨(hi p5 0 1, p5), ?_, (hi p5' 226 2, p5'), ?_, ⟨i5, k5, (((f1.tr f2').tr f3).tr f4).tr f5⟩, (((r1.tr r2).tr r3).tr r4).tr r5, es, es, ?_, fun k hk => b5 k ?_⟩
    · rw [e1, Option.bind_some, e2, Option.bind_some, e3, Option.bind_some, e4, Option.bind_some, e5, Option.bind_some]
    · rw [if_pos (Int32.le_iff_toInt_le.mpr c1), e1', Option.bind_some, e2', Option.bind_some, e3', Option.bind_some, e4', Option.bind_some, e5', Option.bind_some]
    · show 0 ≤ (hi p5' 226 2).toInt ∧ (hi p5' 226 2).toInt ≤ 2000
      omega
    · have hk' : (k : Int) < (hi p5 0 1).toInt := hk
      omega
  · refine ⟨(-1, h'), ?_, ⟨ix, kM.rfl' h, kF.rf h⟩, ltF.rf h', rfl, t, ?_, e⟩
    · rw [if_neg (fun z => by have := Int32.le_iff_toInt_le.mp z; omega)]
    · show 0 ≤ (hi h' 226 2).toInt ∧ (hi h' 226 2).toInt ≤ 2000
      omega
theorem sf_X12_back {h : Hp} {n : Nat} {x1 : Int32} (d : dI h) : Ok (F_X12_back n h x1) (fun q => (tpP h q.2 ∧ ∀ k, hi q.2 227 k = hi h 227 k) ∧ bkR (hi h 226 2) x1 q.1 (hi q.2 226 2)) := by
  have t1 := d.2.1
  have f0 := lit_0
  unfold F_X12_back
  refine Ok.lt (fun c1 => Ok.ret ⟨⟨tpP.rf d, fun _ => rfl⟩, Or.inr ⟨by omega, lit_m1, rfl⟩⟩) (fun c1 => ?_)
  refine Ok.le (fun c2 => ?_) (fun c2 => Ok.ret ⟨⟨tpP.rf d, fun _ => rfl⟩, Or.inr ⟨by omega, lit_m1, rfl⟩⟩)
  have a1 := sbT (hi h 226 2) x1 (by omega) (by omega)
  generalize eg2 : wrI h 226 2 (hi h 226 2 - x1) = g2
  have y3 : hi g2 226 2 = hi h 226 2 - x1 := hiE eg2
  have fr : ltF h g2 := by
    refine ⟨fun x k p q => ?_, fun x k => ?_⟩
    · rw [← eg2, hi_wrI, if_neg q]
    · rw [← eg2]
      rfl
  refine Ok.ret ⟨⟨fr.dI (by rw [y3]; omega) d, fun k => hiA eg2 227 k (by decide)⟩, Or.inl ⟨by omega, ?_, ?_⟩⟩
  · show (hi g2 226 2).toInt = _
    rw [y3]; omega
  · show (hi g2 226 2).toInt = _
    rw [y3]; omega
