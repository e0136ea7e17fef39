/-! READING: an expression, gone through -/
section EX
variable {hE : Hp} {c0 : Nat}
/-- one order that waits comes out -/
theorem out_one {h : Hp} {c n1 k O P : Nat} {m : Nat} (b : bO c0 hE) (e : eC hE c0 h c (n1 + 1) k O P ((P : Int) + 1)) (x : eA hE c0 h c P) {k1 P1 : Nat} (w : wtO (hi h 259) n1 = some (k1, O, P1)) (hP : P = P1 + 1) {v : Int32} (v0 : 2 ≤ v.toInt) (v1 : v.toInt ≤ 5) : Ok (F_X12_emit m (wrI h 226 49 (hi h 226 49 - 1)) v 0) (fun q => eC hE c0 q (c + 1) n1 k1 O P1 ((P1 : Int) + 1) ∧ eA hE c0 q (c + 1) P1 ∧ hi q 226 11 = hi h 226 11 ∧ hi q 226 13 = hi h 226 13 ∧ (∀ z, hi q 229 z = hi h 229 z)) := by
  have cb := e.cb x b
  have wb := wt_bd _ _ _ _ w
  have e49 := e.2.2.2.1.2.1
  have o7 := e.2.2.2.1.2.2.2
  have f1 := lit_1
  generalize ey : (hi h 226 49 - 1 : Int32) = y
  have fy := sbG ey rfl lit_1 (by omega) (by omega)
  generalize eg : wrI h 226 49 y = g
  have fr (a z : Nat) (q : ¬ (a = 226 ∧ (z = 12 ∨ z = 49))) (_ : a ≠ 259) : hi g a z = hi h a z := by
    rw [← eg, hi_wrI, if_neg (by omega)]
  have h259 : hi g 259 = hi h 259 := funext fun z => hiA eg 259 z (by decide)
  have e1 : eC hE c0 g c n1 k1 O P1 ((P : Int) + 1) := e.top fr (fun a z => by rw [← eg]; rfl) (by rw [hiE eg]; omega) (by rw [hiK eg 226 12 (by decide)]; exact e.2.2.2.1.2.2.1) o7 (by rw [h259]; exact w)
  refine (e1.emit (by omega) (by omega) (by omega) (fun _ => ⟨by omega, v1⟩) (fun _ q => by omega)).mono (fun q hq => ?_)
  obtain ⟨q1, q2, q3, q4⟩ := hq
  have r1 : hi g 226 11 = hi h 226 11 := fr 226 11 (by decide) (by decide)
  have r2 : hi g 226 13 = hi h 226 13 := fr 226 13 (by decide) (by decide)
  rw [if_neg (by omega)] at q1
  rw [show (P : Int) + 1 + -1 = (P1 : Int) + 1 by omega] at q1
  exact ⟨q1, x.eq (q2.trans r1) (q3.trans r2) (by omega), q2.trans r1, q3.trans r2, fun z => (q4 z).trans (fr 229 z (by omega) (by decide))⟩
set_option maxHeartbeats 4000000 in
theorem sr_out (b : bO c0 hE) {l1 : Int32} : ∀ m : Nat, ∀ (h : Hp) (c n k O P : Nat), eC hE c0 h c n k O P ((P : Int) + 1) → eA hE c0 h c P → n + 1 < m → Ok (W_X12_comesOut m 0 h l1) (fun q => ∃ c' n' k' P', eC hE c0 q c' n' k' O P' ((P' : Int) + 1) ∧ eA hE c0 q c' P' ∧ (l1.toInt = 0 → k' = 0) ∧ k' ≤ 1 ∧ hi q 226 11 = hi h 226 11 ∧ hi q 226 13 = hi h 226 13 ∧ (∀ z, hi q 229 z = hi h 229 z)) := by
  intro m
  induction m with
  | zero => intro h c n k O P e x d; omega
  | succ m ih =>
    intro h c n k O P e x d
    have f0 := lit_0
    have f1 := lit_1
    have e49 := e.2.2.2.1.2.1
    have o7 := e.2.2.2.1.2.2.2
    have w := e.2.2.2.2.1
    have wb := wt_bd _ _ _ _ w
    rw [u_X12_comesOut]
    refine Ok.pos rfl ?_
    refine Ok.le (fun c1 => ?_) (fun c1 => ?_)
    · have z : n = 0 := by omega
      have k0 : k = 0 := by
        rw [z] at w
        unfold wtO at w
        cases w
        rfl
      exact Ok.ret ⟨c, n, k, P, e, x, fun _ => k0, by omega, rfl, rfl, fun _ => rfl⟩
    · obtain ⟨n1, rfl⟩ : ∃ n1, n = n1 + 1 := ⟨n - 1, by omega⟩
      obtain ⟨k1, O1, P1, w1, w2⟩ := wt_pop w
      have g0 : (hi h 226 49 - 1 : Int32).toInt = n1 ∧ Int32.toNatClampNeg (hi h 226 49 - 1) = n1 := by
        generalize ey : (hi h 226 49 - 1 : Int32) = y
        have fy := sbG ey rfl lit_1 (by omega) (by omega)
        have ny := ncT (show 0 ≤ y.toInt by omega)
        exact ⟨by omega, by omega⟩
      refine Ok.chk (ixT (by rw [g0.1]; omega) (by rw [g0.1]; omega)) (fun c2 => ?_)
      rw [g0.2]
      have e6 := lit_6
      have e8 := lit_8
      have e9 := lit_9
      have e10 := lit_10
      have stay (hk : (hi h 259 n1).toInt = 6 ∨ (l1.toInt ≠ 0 ∧ ((hi h 259 n1).toInt = 8 ∨ (hi h 259 n1).toInt = 9))) : Ok (some h) (fun q => ∃ c' n' k' P', eC hE c0 q c' n' k' O P' ((P' : Int) + 1) ∧ eA hE c0 q c' P' ∧ (l1.toInt = 0 → k' = 0) ∧ k' ≤ 1 ∧ hi q 226 11 = hi h 226 11 ∧ hi q 226 13 = hi h 226 13 ∧ (∀ z, hi q 229 z = hi h 229 z)) := Ok.ret ⟨c, n1 + 1, k, P, e, x, fun q => by omega, by omega, rfl, rfl, fun _ => rfl⟩
      have go (v : Int32) (v0 : 2 ≤ v.toInt) (v1 : v.toInt ≤ 5) (nk : (hi h 259 n1).toInt ≠ 6) : Ok ((F_X12_emit m (wrI h 226 49 (hi h 226 49 - 1)) v 0).bind (fun q14 => W_X12_comesOut m 0 q14 l1)) (fun q => ∃ c' n' k' P', eC hE c0 q c' n' k' O P' ((P' : Int) + 1) ∧ eA hE c0 q c' P' ∧ (l1.toInt = 0 → k' = 0) ∧ k' ≤ 1 ∧ hi q 226 11 = hi h 226 11 ∧ hi q 226 13 = hi h 226 13 ∧ (∀ z, hi q 229 z = hi h 229 z)) := by
        have hO : O1 = O ∧ P = P1 + 1 := by omega
        rw [hO.1] at w1
        refine Ok.bind (out_one b e x w1 hO.2 v0 v1) (fun q hq => ?_)
        obtain ⟨a1, a2, a3, a4, a5⟩ := hq
        refine (ih q (c + 1) n1 k1 O P1 a1 a2 (by omega)).mono (fun r hr => ?_)
        obtain ⟨c', n', k', P', b1, b2, b3, b4, b5, b6, b7⟩ := hr
        exact ⟨c', n', k', P', b1, b2, b3, b4, b5.trans a3, b6.trans a4, fun z => (b7 z).trans (a5 z)⟩
      refine Ok.eq (fun c3 => stay (by omega)) (fun c3 => ?_)
      refine Ok.eq (fun c4 => ?_) (fun c4 => ?_)
      · refine Ok.ite (fun _ => go 2 (by decide) (by decide) (by omega)) (fun _ => ?_)
        refine Ok.ite (fun _ => go 3 (by decide) (by decide) (by omega)) (fun _ => ?_)
        exact Ok.ite (fun _ => go 4 (by decide) (by decide) (by omega)) (fun _ => go 5 (by decide) (by decide) (by omega))
      · refine Ok.eq (fun c5 => stay (by omega)) (fun c5 => ?_)
        refine Ok.eq (fun c6 => stay (by omega)) (fun c6 => ?_)
        refine Ok.ite (fun _ => go 2 (by decide) (by decide) (by omega)) (fun _ => ?_)
        refine Ok.ite (fun _ => go 3 (by decide) (by decide) (by omega)) (fun _ => ?_)
        exact Ok.ite (fun _ => go 4 (by decide) (by decide) (by omega)) (fun _ => go 5 (by decide) (by decide) (by omega))
theorem sr_unit {h : Hp} {c n k O P m : Nat} (b : bO c0 hE) (e : eC hE c0 h c n k O P (P : Int)) (x : eA hE c0 h c P) : Ok (F_X12_unit m h) (fun q => ((hi q 226 13).toInt = 0 → (hi h 226 13).toInt = 0 ∧ eC hE c0 q (c + 1) n k O P ((P : Int) + 1) ∧ eA hE c0 q (c + 1) P ∧ (hi q 226 11).toInt = (hi h 226 11).toInt + 1) ∧ ∃ c' D', eC hE c0 q c' n k O P D' ∧ eA hE c0 q c' P) := by
  have cb := e.cb x b
  have t := e.2.1
  have t1 := t.1
  have wb := wt_bd _ _ _ _ e.2.2.2.2.1
  have o7 := e.2.2.2.1.2.2.2
  have f0 := lit_0
  have fl : Ok ((F_X12_fail m h 1).bind (fun q9 => some q9)) (fun q => ((hi q 226 13).toInt = 0 → (hi h 226 13).toInt = 0 ∧ eC hE c0 q (c + 1) n k O P ((P : Int) + 1) ∧ eA hE c0 q (c + 1) P ∧ (hi q 226 11).toInt = (hi h 226 11).toInt + 1) ∧ ∃ c' D', eC hE c0 q c' n k O P D' ∧ eA hE c0 q c' P) := by
    refine Ok.bind (sr_fail t (by decide)) (fun q hq => ?_)
    exact Ok.ret ⟨fun z => absurd z hq.2.1, c, P, e.p hq.1, x.p hq.1⟩
  have em (u v : Int32) (hu : u.toInt = 0 ∨ (u.toInt = 1 ∧ 0 ≤ v.toInt ∧ v.toInt < 9)) (fz : (hi h 226 13).toInt = 0) : Ok ((F_X12_emit m h u v).bind (fun q16 => ((F_X12_goesOn m q16).bind (fun q18 => some q18)))) (fun q => ((hi q 226 13).toInt = 0 → (hi h 226 13).toInt = 0 ∧ eC hE c0 q (c + 1) n k O P ((P : Int) + 1) ∧ eA hE c0 q (c + 1) P ∧ (hi q 226 11).toInt = (hi h 226 11).toInt + 1) ∧ ∃ c' D', eC hE c0 q c' n k O P D' ∧ eA hE c0 q c' P) := by
    refine Ok.bind (e.emit (by omega) (by omega) (by omega) (fun q => by omega) (fun _ _ => by omega)) (fun q16 hq => ?_)
    obtain ⟨a1, a2, a3, a4⟩ := hq
    rw [if_pos (by omega)] at a1
    refine Ok.bind (sr_goesOn a1.2.1) (fun q18 hq18 => ?_)
    have z1 := a1.p hq18.1
    have xx := x.1 fz
    have mm := hq18.1.2.2.2.1
    rw [a2] at mm
    refine Ok.ret ⟨fun z => ⟨fz, z1, ⟨fun _ => ?_, ?_⟩, ?_⟩, c + 1, _, z1, ⟨fun z => ?_, ?_⟩⟩
    · have := (hq18.2 z).2
      rw [a2] at this
      omega
    · omega
    · have := (hq18.2 z).2
      rw [a2] at this
      exact this
    · have := (hq18.2 z).2
      rw [a2] at this
      omega
    · omega
  unfold F_X12_unit
  refine Ok.bind (sr_is t) (fun q1 hq1 => ?_)
  obtain ⟨e1, y1⟩ := hq1
  rw [e1]
  refine Ok.eq (fun c1 => ?_) (fun c1 => ?_)
  · refine Ok.eq (fun c2 => ?_) (fun _ => fl)
    refine Ok.chk (ixT (by omega) (by omega)) (fun c3 => ?_)
    have f33 : (33 : Int32).toInt = 33 := by decide
    have f41 := lit_41
    refine Ok.lt (fun _ => fl) (fun c4 => ?_)
    refine Ok.pos c3 ?_
    refine Ok.lt (fun _ => fl) (fun c5 => ?_)
    refine Ok.pos c3 ?_
    refine em 1 _ (Or.inr ⟨by decide, ?_⟩) (by omega)
    generalize ey : (hi h 229 (Int32.toNatClampNeg (hi h 226 11)) - 33 : Int32) = y
    have fy := sbG ey rfl f33 (by omega) (by omega)
    omega
  · have c2 := y1.2 (by omega)
    refine Ok.chk (ixT (by omega) (by omega)) (fun c3 => ?_)
    exact em 0 _ (Or.inl (by decide)) c2.1
end EX
