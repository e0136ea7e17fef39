/-! WHAT IS MADE: the reference -/
theorem ap_ok {n : Nat} {h : Hp} {x1 : Int64} {x2 : Int32} : Ok (F_X12_appends n h x1 x2) (fun q => q.2 = h) := by
  unfold F_X12_appends
  exact Ok.ite (fun _ => Ok.ret rfl) (fun _ => Ok.ret rfl)
theorem lt_ok {n : Nat} {h : Hp} {x1 x2 x3 x4 x5 x6 x7 : Int32} : Ok (F_X12_letters n h x1 x2 x3 x4 x5 x6 x7) (fun q => q.2 = h) := by
  unfold F_X12_letters
  refine Ok.bind ap_ok (fun q1 e1 => ?_)
  rw [e1]
  refine Ok.bind ap_ok (fun q2 e2 => ?_)
  rw [e2]
  refine Ok.bind ap_ok (fun q3 e3 => ?_)
  rw [e3]
  refine Ok.bind ap_ok (fun q4 e4 => ?_)
  rw [e4]
  refine Ok.bind ap_ok (fun q5 e5 => ?_)
  rw [e5]
  refine Ok.bind ap_ok (fun q6 e6 => ?_)
  rw [e6]
  refine Ok.bind ap_ok (fun q7 e7 => ?_)
  exact Ok.ret e7
def tlP (h q : Hp) : Prop := (∀ a k, a ≠ 262 → a ≠ 263 → a ≠ 264 → ¬ (a = 226 ∧ (k = 55 ∨ k = 56)) → ¬ plW 0 a k → ¬ plW 1 a k → hi q a k = hi h a k) ∧ (∃ h1 : Hp, (∀ k, k < 63 → hi q 262 k = hi h1 263 k) ∧ (∀ k, hi q 263 k = hi h1 263 k) ∧ rwO 16 (hi h1 263) ∧ ovO (hi h1 263)) ∧ (∀ c, c < 16 → ∀ k, k < 5 → (hi q 264 (5 * c + k)).toInt = ((sdv 4 4 c k : Nat) : Int)) ∧ ((hi q 235 0).toInt = 4 ∧ (hi q 236 0).toInt = 4 ∧ (hi q 242 0).toInt = 0) ∧ ∀ k, k < 4 → (hi q 250 k).toInt = (hi q 251 k).toInt
set_option maxHeartbeats 4000000 in
theorem tl_ok {h : Hp} (z18 : hi h 226 18 = 0) : Ok (F_X12_tail 3000 h) (tlP h) := by
  have f0 := lit_0
  unfold F_X12_tail
  refine Ok.bind (sf_X12_plain (s := 0) (by decide) (by decide) (by decide)) (fun q1 pa => ?_)
  refine Ok.bind (sf_X12_plain (s := 1) (by decide) (by decide) (by decide)) (fun q3 pb => ?_)
  have r3 (a k : Nat) (n0 : ¬ plW 0 a k) (n1 : ¬ plW 1 a k) : hi q3 a k = hi h a k := (pb.1.1.1 a k n1).trans (pa.1.1.1 a k n0)
  have s3 (a : Nat) : hi q3 a 0 = hi q1 a 0 := pb.1.1.1 a 0 (by unfold plW; omega)
  obtain ⟨⟨-, u1, u2, u3, u4, u5⟩, u6⟩ := pa
  rw [← s3] at u1 u2 u3 u4 u5
  have u7 (k : Nat) (hk : k < 4) : (hi q3 250 k).toInt = (hi q3 251 k).toInt := by
    rw [pb.1.1.1 250 k (by unfold plW; omega), pb.1.1.1 251 k (by unfold plW; omega)]
    have := u6 k (by omega)
    rw [show 4 * 0 + k = k by omega] at this
    exact this
  refine Ok.bind lt_ok (fun q5 e0 => ?_)
  rw [e0]
  generalize eg0 : wrL q3 233 0 q5.1 = g0
  have w0 : hi g0 = hi q3 := by rw [← eg0]; rfl
  refine Ok.bind lt_ok (fun q7 e1 => ?_)
  rw [e1]
  generalize eg1 : wrL g0 233 1 q7.1 = g1
  have w1 : hi g1 = hi g0 := by rw [← eg1]; rfl
  refine Ok.bind lt_ok (fun q9 e2 => ?_)
  rw [e2]
  generalize eg2 : wrL g1 233 2 q9.1 = g2
  have w2 : hi g2 = hi g1 := by rw [← eg2]; rfl
  refine Ok.bind lt_ok (fun q11 e3 => ?_)
  rw [e3]
  generalize eg3 : wrL g2 233 3 q11.1 = g3
  have w3 : hi g3 = hi g2 := by rw [← eg3]; rfl
  refine Ok.bind lt_ok (fun q13 e4 => ?_)
  rw [e4]
  generalize eg4 : wrL g3 233 4 q13.1 = g4
  have w4 : hi g4 = hi g3 := by rw [← eg4]; rfl
  refine Ok.bind lt_ok (fun q15 e5 => ?_)
  rw [e5]
  generalize eg5 : wrL g4 233 5 q15.1 = g5
  have w5 : hi g5 = hi g4 := by rw [← eg5]; rfl
  refine Ok.bind lt_ok (fun q17 e6 => ?_)
  rw [e6]
  generalize eg6 : wrL g5 233 6 q17.1 = g6
  have w6 : hi g6 = hi g5 := by rw [← eg6]; rfl
  refine Ok.bind lt_ok (fun q19 e7 => ?_)
  rw [e7]
  generalize eg7 : wrL g6 233 7 q19.1 = g7
  have w7 : hi g7 = hi g6 := by rw [← eg7]; rfl
  refine Ok.bind lt_ok (fun q21 e8 => ?_)
  rw [e8]
  generalize eg8 : wrL g7 233 8 q21.1 = g8
  have w8 : hi g8 = hi g7 := by rw [← eg8]; rfl
  refine Ok.bind lt_ok (fun q23 e9 => ?_)
  rw [e9]
  generalize eg9 : wrL g8 233 9 q23.1 = g9
  have w9 : hi g9 = hi g8 := by rw [← eg9]; rfl
  refine Ok.bind lt_ok (fun q25 e10 => ?_)
  rw [e10]
  generalize eg10 : wrL g9 233 10 q25.1 = g10
  have w10 : hi g10 = hi g9 := by rw [← eg10]; rfl
  refine Ok.bind lt_ok (fun q27 e11 => ?_)
  rw [e11]
  generalize eg11 : wrL g10 233 11 q27.1 = g11
  have w11 : hi g11 = hi g10 := by rw [← eg11]; rfl
  refine Ok.bind lt_ok (fun q29 e12 => ?_)
  rw [e12]
  generalize eg12 : wrL g11 233 12 q29.1 = g12
  have w12 : hi g12 = hi g11 := by rw [← eg12]; rfl
  refine Ok.bind lt_ok (fun q31 e13 => ?_)
  rw [e13]
  generalize eg13 : wrL g12 233 13 q31.1 = g13
  have w13 : hi g13 = hi g12 := by rw [← eg13]; rfl
  refine Ok.bind lt_ok (fun q33 e14 => ?_)
  rw [e14]
  generalize eg14 : wrL g13 233 14 q33.1 = g14
  have w14 : hi g14 = hi g13 := by rw [← eg14]; rfl
  refine Ok.bind lt_ok (fun q35 e15 => ?_)
  rw [e15]
  generalize eg15 : wrL g14 233 15 q35.1 = g15
  have w15 : hi g15 = hi g14 := by rw [← eg15]; rfl
  refine Ok.bind lt_ok (fun q37 e16 => ?_)
  rw [e16]
  generalize eg16 : wrL g15 233 16 q37.1 = g16
  have w16 : hi g16 = hi g15 := by rw [← eg16]; rfl
  refine Ok.bind lt_ok (fun q39 e17 => ?_)
  rw [e17]
  generalize eg17 : wrL g16 233 17 q39.1 = g17
  have w17 : hi g17 = hi g16 := by rw [← eg17]; rfl
  refine Ok.bind lt_ok (fun q41 e18 => ?_)
  rw [e18]
  generalize eg18 : wrL g17 233 18 q41.1 = g18
  have w18 : hi g18 = hi g17 := by rw [← eg18]; rfl
  refine Ok.bind lt_ok (fun q43 e19 => ?_)
  rw [e19]
  generalize eg19 : wrL g18 233 19 q43.1 = g19
  have w19 : hi g19 = hi g18 := by rw [← eg19]; rfl
  refine Ok.bind lt_ok (fun q45 e20 => ?_)
  rw [e20]
  generalize eg20 : wrL g19 233 20 q45.1 = g20
  have w20 : hi g20 = hi g19 := by rw [← eg20]; rfl
  refine Ok.bind lt_ok (fun q47 e21 => ?_)
  rw [e21]
  generalize eg21 : wrL g20 233 21 q47.1 = g21
  have w21 : hi g21 = hi g20 := by rw [← eg21]; rfl
  have w : hi g21 = hi q3 := by rw [w21, w20, w19, w18, w17, w16, w15, w14, w13, w12, w11, w10, w9, w8, w7, w6, w5, w4, w3, w2, w1, w0]
  have z3 : hi q3 226 18 = 0 := (r3 226 18 (by unfold plW; omega) (by unfold plW; omega)).trans z18
  rw [← w] at r3 u1 u2 u3 u4 u5 u7 z3
  have H : bgH 0 4 4 g21 := by
    refine ⟨by omega, by omega, by omega, by rw [z3]; exact f0, u1, u2, ⟨fun k hk => ?_, fun k hk => ?_⟩, by omega, by omega, by omega⟩
    · exfalso; omega
    · exfalso; omega
  refine Ok.bind (sf_X12_begins (by omega) H) (fun q49 hq => ?_)
  obtain ⟨h1, v, hb, hp⟩ := hq
  refine Ok.bind (sf_X12_keepsRow (by omega)) (fun q cp => ?_)
  have r6 (a k : Nat) (n1 : a ≠ 263) (n2 : a ≠ 264) (n3 : ¬ (a = 226 ∧ (k = 55 ∨ k = 56))) : hi q49 a k = hi g21 a k := by
    rw [hp.1.1 a k n2, hi_wrI, if_neg (by omega), hi_wrI, if_neg (by omega)]
    exact hb.1.1 a k n1
  have r8 (a k : Nat) (n0 : a ≠ 262) (n1 : a ≠ 263) (n2 : a ≠ 264) (n3 : ¬ (a = 226 ∧ (k = 55 ∨ k = 56))) : hi q a k = hi g21 a k := by
    rw [cp.1.1 a k n0]
    exact r6 a k n1 n2 n3
  have e63 (k : Nat) : hi q49 263 k = hi h1 263 k := by
    rw [hp.1.1 263 k (by decide), hi_wrI, if_neg (by omega), hi_wrI, if_neg (by omega)]
  refine Ok.ret ⟨fun a k n0 n1 n2 n3 n4 n5 => (r8 a k n0 n1 n2 n3).trans (r3 a k n4 n5), ⟨h1, fun k hk => (cp.2.1 k hk).trans (e63 k), fun k => (cp.1.1 263 k (by decide)).trans (e63 k), hb.2.1, hb.2.2⟩, fun c hc k hk => ?_, ⟨?_, ?_, ?_⟩, fun k hk => ?_⟩
  · rw [cp.1.1 264 _ (by decide)]
    exact hp.2 c hc k hk
  · rw [r8 235 0 (by decide) (by decide) (by decide) (by decide)]; exact u1
  · rw [r8 236 0 (by decide) (by decide) (by decide) (by decide)]; exact u2
  · rw [r8 242 0 (by decide) (by decide) (by decide) (by decide)]; exact u4
  · rw [r8 250 k (by decide) (by decide) (by decide) (by omega), r8 251 k (by decide) (by decide) (by decide) (by omega)]; exact u7 k hk
theorem Ok.some' {α : Type} {o : Option α} {P : α → Prop} (h : Ok o P) : o.isSome = true := by
  obtain ⟨x, e, -⟩ := h
  rw [e]
  rfl
theorem Ok.getD {α : Type} {o : Option α} {P : α → Prop} (z : α) (h : Ok o P) : P (o.getD z) := by
  obtain ⟨x, e, p⟩ := h
  rw [e]
  exact p
theorem y18 : hi hk_505 226 18 = 0 := by decide +kernel
def hk_Y : Hp := (F_X12_tail 3000 hk_505).getD hE
theorem someY : (F_X12_tail 3000 hk_505).isSome = true := (tl_ok y18).some'
theorem tlY : tlP hk_505 hk_Y := (tl_ok y18).getD hE
