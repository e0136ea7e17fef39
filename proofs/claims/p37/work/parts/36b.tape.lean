/-! THE TAPE: the reference's -/
def ltF (h q : Hp) : Prop := (∀ a k, a ≠ 227 → ¬ (a = 226 ∧ k = 2) → hi q a k = hi h a k) ∧ (∀ a k, hl q a k = hl h a k)
theorem ltF.tr {h0 h1 h2 : Hp} (a : ltF h0 h1) (b : ltF h1 h2) : ltF h0 h2 := ⟨fun x k p q => (b.1 x k p q).trans (a.1 x k p q), fun x k => (b.2 x k).trans (a.2 x k)⟩
theorem ltF.dI {h q : Hp} (l : ltF h q) (t0 : 0 ≤ (hi q 226 2).toInt ∧ (hi q 226 2).toInt ≤ 2000) (d : dI h) : dI q ∧ kX h q ∧ ∀ k, hi q 229 k = hi h 229 k := by
  refine ⟨d.fr rfl (fun a k _ n f => l.1 a k ?_ ?_) t0, fun a k ha => ⟨l.1 a k (by omega) (by omega), l.2 a k⟩, fun k => l.1 229 k (by decide) (by omega)⟩
  · unfold frB at f; have := d.1.1; omega
  · unfold frB at f; omega
theorem lays_loop {l1 : Int32} : ∀ (m n : Nat) (h : Hp) (l2 : Int32), l2.toInt = 8 * (m : Int) - 8 → m ≤ 4 → 0 ≤ (hi h 226 2).toInt → (hi h 226 2).toInt + m ≤ 2000 → m + 1 ≤ n → Ok (W_X12_lays n 3 h l1 l2) (fun q => ltF h q ∧ (hi q 226 2).toInt = (hi h 226 2).toInt + m) := by
  intro m
  induction m with
  | zero =>
    intro n h l2 a b t1 c d
    obtain ⟨n', rfl⟩ : ∃ n', n = n' + 1 := ⟨n - 1, by omega⟩
    have f0 := lit_0
    rw [u_X12_lays]
    refine Ok.pos rfl ?_
    refine Ok.lt (fun _ => Ok.ret ⟨⟨fun _ _ _ _ => rfl, fun _ _ => rfl⟩, by omega⟩) (fun c1 => by exfalso; omega)
  | succ m ih =>
    intro n h l2 a b t1 c d
    obtain ⟨n', rfl⟩ : ∃ n', n = n' + 1 := ⟨n - 1, by omega⟩
    have f0 := lit_0
    have f1 := lit_1
    rw [u_X12_lays]
    refine Ok.pos rfl ?_
    refine Ok.lt (fun c1 => by exfalso; omega) (fun c1 => ?_)
    refine Ok.chk (ixT (by omega) (by omega)) (fun c3 => ?_)
    generalize eg1 : wrI h 227 (Int32.toNatClampNeg (hi h 226 2)) _ = g1
    have x3 : hi g1 226 2 = hi h 226 2 := hiA eg1 226 2 (by decide)
    rw [x3]
    have a1 := adT (hi h 226 2) 1 (by omega) (by omega)
    generalize eg2 : wrI g1 226 2 (hi h 226 2 + 1) = g2
    have y3 : hi g2 226 2 = hi h 226 2 + 1 := hiE eg2
    have fr : ltF h g2 := by
      refine ⟨fun x k p q => ?_, fun x k => ?_⟩
      · rw [← eg2, hi_wrI, if_neg q]
        exact hiA eg1 x k p
      · rw [← eg2]
        show hl g1 x k = _
        rw [← eg1]
        rfl
    generalize ey : (l2 + (-8) : Int32) = y
    have fy := adG ey rfl (show (-8 : Int32).toInt = -8 by decide) (by omega) (by omega)
    refine (ih n' g2 y (by omega) (by omega) (by rw [y3]; omega) (by rw [y3]; omega) (by omega)).mono (fun q hq => ⟨fr.tr hq.1, ?_⟩)
    have z := hq.2
    rw [y3] at z
    omega
theorem sf_X12_lays {h : Hp} {n : Nat} {x : Int32} (hn : 10 ≤ n) (t1 : 0 ≤ (hi h 226 2).toInt) (c : (hi h 226 2).toInt + 4 ≤ 2000) : Ok (F_X12_lays n h x) (fun q => ltF h q ∧ (hi q 226 2).toInt = (hi h 226 2).toInt + 4) := by
  unfold F_X12_lays
  exact lays_loop 4 n h 24 (by decide) (by omega) t1 c (by omega)
def tpP (h q : Hp) : Prop := dI q ∧ kX h q ∧ ∀ k, hi q 229 k = hi h 229 k
theorem sf_X12_feed {h : Hp} {n : Nat} {x1 x2 x3 x4 x5 : Int32} (hn : 10 ≤ n) (d : dI h) : Ok (F_X12_feed n h x1 x2 x3 x4 x5) (fun q => tpP h q.2 ∧ fdR (hi h 226 2) q.1 (hi q.2 226 2)) := by
  have t1 := d.2.1
  have f20 := lit_20
  have f2 := lit_2000
  have a1 := adT (hi h 226 2) 20 (by omega) (by omega)
  unfold F_X12_feed
  refine Ok.le (fun c1 => ?_) (fun c1 => Ok.ret ⟨⟨d, kX.rf h, fun _ => rfl⟩, Or.inr ⟨by omega, lit_m1, rfl⟩⟩)
  refine Ok.bind (sf_X12_lays hn (by omega) (by omega)) (fun q2 h2 => ?_)
  refine Ok.bind (sf_X12_lays hn (by omega) (by omega)) (fun q4 h4 => ?_)
  refine Ok.bind (sf_X12_lays hn (by omega) (by omega)) (fun q6 h6 => ?_)
  refine Ok.bind (sf_X12_lays hn (by omega) (by omega)) (fun q8 h8 => ?_)
  refine Ok.bind (sf_X12_lays hn (by omega) (by omega)) (fun q h10 => ?_)
  have fr := (((h2.1.tr h4.1).tr h6.1).tr h8.1).tr h10.1
  refine Ok.ret ⟨fr.dI (by omega) d, Or.inl ⟨by omega, ?_, ?_⟩⟩
  · show (hi q 226 2).toInt = _
    omega
  · show (hi q 226 2).toInt = _
    omega
theorem sf_X12_back {h : Hp} {n : Nat} {x1 : Int32} (d : dI h) : Ok (F_X12_back n h x1) (fun q => tpP h q.2 ∧ bkR (hi h 226 2) x1 q.1 (hi q.2 226 2)) := by
  have t1 := d.2.1
  have f0 := lit_0
  unfold F_X12_back
  refine Ok.lt (fun c1 => Ok.ret ⟨⟨d, kX.rf h, fun _ => rfl⟩, Or.inr ⟨by omega, lit_m1, rfl⟩⟩) (fun c1 => ?_)
  refine Ok.le (fun c2 => ?_) (fun c2 => Ok.ret ⟨⟨d, kX.rf h, fun _ => rfl⟩, Or.inr ⟨by omega, lit_m1, rfl⟩⟩)
  have a1 := sbT (hi h 226 2) x1 (by omega) (by omega)
  generalize eg2 : wrI h 226 2 (hi h 226 2 - x1) = g2
  have y3 : hi g2 226 2 = hi h 226 2 - x1 := hiE eg2
  have fr : ltF h g2 := by
    refine ⟨fun x k p q => ?_, fun x k => ?_⟩
    · rw [← eg2, hi_wrI, if_neg q]
    · rw [← eg2]
      rfl
  refine Ok.ret ⟨fr.dI (by rw [y3]; omega) d, Or.inl ⟨by omega, ?_, ?_⟩⟩
  · show (hi g2 226 2).toInt = _
    rw [y3]; omega
  · show (hi g2 226 2).toInt = _
    rw [y3]; omega
