/-! WHAT IS MADE: the reference -/
theorem ap_ok {n : Nat} {h : Hp} {x1 : Int64} {x2 : Int32} : Ok (F_X12_appends n h x1 x2) (fun q => q.2 = h) := by
  unfold F_X12_appends
  exact Ok.ite (fun _ => Ok.ret rfl) (fun _ => Ok.ret rfl)
theorem lt_ok {n : Nat} {h : Hp} {x1 x2 x3 x4 x5 x6 x7 : Int32} : Ok (F_X12_letters n h x1 x2 x3 x4 x5 x6 x7) (fun q => q.2 = h) := by
  unfold F_X12_letters
  refine Ok.bind ap_ok (fun q1 e1 => ?_)
  rw [e1]
  refine Ok.bind ap_ok (fun q2 e2 => ?_)
  rw [e2]
  refine Ok.bind ap_ok (fun q3 e3 => ?_)
  rw [e3]
  refine Ok.bind ap_ok (fun q4 e4 => ?_)
  rw [e4]
  refine Ok.bind ap_ok (fun q5 e5 => ?_)
  rw [e5]
  refine Ok.bind ap_ok (fun q6 e6 => ?_)
  rw [e6]
  refine Ok.bind ap_ok (fun q7 e7 => ?_)
  exact Ok.ret e7
def tlP (h q : Hp) : Prop := (∀ a k, a ≠ 262 → a ≠ 263 → a ≠ 264 → ¬ (a = 226 ∧ (k = 55 ∨ k = 56)) → ¬ plW 0 a k → ¬ plW 1 a k → hi q a k = hi h a k) ∧ (∃ h1 : Hp, (∀ k, k < 63 → hi q 262 k = hi h1 263 k) ∧ (∀ k, hi q 263 k = hi h1 263 k) ∧ rwO 16 (hi h1 263) ∧ ovO (hi h1 263)) ∧ (∀ c, c < 16 → ∀ k, k < 5 → (hi q 264 (5 * c + k)).toInt = ((sdv 4 4 c k : Nat) : Int)) ∧ ((hi q 235 0).toInt = 4 ∧ (hi q 236 0).toInt = 4 ∧ (hi q 242 0).toInt = 0) ∧ ∀ k, k < 4 → (hi q 250 k).toInt = (hi q 251 k).toInt
def tlG (q3 : Hp) : Prop := (hi q3 235 0).toInt = 4 ∧ (hi q3 236 0).toInt = 4 ∧ (hi q3 237 0).toInt = 0 ∧ (hi q3 242 0).toInt = 0 ∧ (hi q3 245 0).toInt = 0 ∧ hi q3 226 18 = 0 ∧ ∀ k, k < 4 → (hi q3 250 k).toInt = (hi q3 251 k).toInt
def tlR (g q : Hp) : Prop := (∀ a k, a ≠ 262 → a ≠ 263 → a ≠ 264 → ¬ (a = 226 ∧ (k = 55 ∨ k = 56)) → hi q a k = hi g a k) ∧ (∃ h1 : Hp, (∀ k, k < 63 → hi q 262 k = hi h1 263 k) ∧ (∀ k, hi q 263 k = hi h1 263 k) ∧ rwO 16 (hi h1 263) ∧ ovO (hi h1 263)) ∧ (∀ c, c < 16 → ∀ k, k < 5 → (hi q 264 (5 * c + k)).toInt = ((sdv 4 4 c k : Nat) : Int))
theorem tl_H {g : Hp} (u : tlG g) : bgH 0 4 4 g := by
  obtain ⟨u1, u2, u3, u4, u5, z3, -⟩ := u
  have f0 := lit_0
  unfold bgH onL
  refine ⟨by omega, by omega, by omega, by rw [z3]; exact f0, u1, u2, ⟨fun k hk => ?_, fun k hk => ?_⟩, by omega, by omega, by omega⟩
  · exfalso; omega
  · exfalso; omega
theorem tl_C {n : Nat} (hn : 3000 ≤ n) {g : Hp} (u : tlG g) : Ok ((F_X12_begins n g).bind (fun q49 => ((F_X12_keepsRow n q49).bind (fun q51 => some q51)))) (tlR g) := by
  refine Ok.bind (sf_X12_begins (by omega) (tl_H u)) (fun q49 hq => ?_)
  obtain ⟨h1, v, hb, hp⟩ := hq
  refine Ok.bind (sf_X12_keepsRow (by omega)) (fun q cp => ?_)
  have r6 (a k : Nat) (n1 : a ≠ 263) (n2 : a ≠ 264) (n3 : ¬ (a = 226 ∧ (k = 55 ∨ k = 56))) : hi q49 a k = hi g a k := by
    rw [hp.1.1 a k n2, hi_wrI, if_neg (by omega), hi_wrI, if_neg (by omega)]
    exact hb.1.1 a k n1
  have e63 (k : Nat) : hi q49 263 k = hi h1 263 k := by
    rw [hp.1.1 263 k (by decide), hi_wrI, if_neg (by omega), hi_wrI, if_neg (by omega)]
  refine Ok.ret ⟨fun a k n0 n1 n2 n3 => (cp.1.1 a k n0).trans (r6 a k n1 n2 n3), ⟨h1, fun k hk => (cp.2.1 k hk).trans (e63 k), fun k => (cp.1.1 263 k (by decide)).trans (e63 k), hb.2.1, hb.2.2⟩, fun c hc k hk => ?_⟩
  rw [cp.1.1 264 _ (by decide)]
  exact hp.2 c hc k hk
def lc_22 (n : Nat) (g : Hp) : Option Hp := ((F_X12_begins n g).bind (fun q49 => ((F_X12_keepsRow n q49).bind (fun q51 => some q51))))
def lc_21 (n : Nat) (g : Hp) : Option Hp := ((F_X12_letters n g 116 117 110 101 115 0 0).bind (fun q => lc_22 n (wrL q.2 233 21 q.1)))
def lc_20 (n : Nat) (g : Hp) : Option Hp := ((F_X12_letters n g 104 105 103 104 0 0 0).bind (fun q => lc_21 n (wrL q.2 233 20 q.1)))
def lc_19 (n : Nat) (g : Hp) : Option Hp := ((F_X12_letters n g 119 105 100 101 0 0 0).bind (fun q => lc_20 n (wrL q.2 233 19 q.1)))
def lc_18 (n : Nat) (g : Hp) : Option Hp := ((F_X12_letters n g 119 104 105 99 104 0 0).bind (fun q => lc_19 n (wrL q.2 233 18 q.1)))
def lc_17 (n : Nat) (g : Hp) : Option Hp := ((F_X12_letters n g 109 111 118 101 100 0 0).bind (fun q => lc_18 n (wrL q.2 233 17 q.1)))
def lc_16 (n : Nat) (g : Hp) : Option Hp := ((F_X12_letters n g 98 101 97 116 0 0 0).bind (fun q => lc_17 n (wrL q.2 233 16 q.1)))
def lc_15 (n : Nat) (g : Hp) : Option Hp := ((F_X12_letters n g 116 105 109 101 0 0 0).bind (fun q => lc_16 n (wrL q.2 233 15 q.1)))
def lc_14 (n : Nat) (g : Hp) : Option Hp := ((F_X12_letters n g 116 111 112 0 0 0 0).bind (fun q => lc_15 n (wrL q.2 233 14 q.1)))
def lc_13 (n : Nat) (g : Hp) : Option Hp := ((F_X12_letters n g 108 101 102 116 0 0 0).bind (fun q => lc_14 n (wrL q.2 233 13 q.1)))
def lc_12 (n : Nat) (g : Hp) : Option Hp := ((F_X12_letters n g 101 108 115 101 0 0 0).bind (fun q => lc_13 n (wrL q.2 233 12 q.1)))
def lc_11 (n : Nat) (g : Hp) : Option Hp := ((F_X12_letters n g 116 104 101 110 0 0 0).bind (fun q => lc_12 n (wrL q.2 233 11 q.1)))
def lc_10 (n : Nat) (g : Hp) : Option Hp := ((F_X12_letters n g 105 102 0 0 0 0 0).bind (fun q => lc_11 n (wrL q.2 233 10 q.1)))
def lc_9 (n : Nat) (g : Hp) : Option Hp := ((F_X12_letters n g 115 101 101 100 0 0 0).bind (fun q => lc_10 n (wrL q.2 233 9 q.1)))
def lc_8 (n : Nat) (g : Hp) : Option Hp := ((F_X12_letters n g 119 101 116 0 0 0 0).bind (fun q => lc_9 n (wrL q.2 233 8 q.1)))
def lc_7 (n : Nat) (g : Hp) : Option Hp := ((F_X12_letters n g 99 111 115 116 115 0 0).bind (fun q => lc_8 n (wrL q.2 233 7 q.1)))
def lc_6 (n : Nat) (g : Hp) : Option Hp := ((F_X12_letters n g 115 112 114 101 97 100 115).bind (fun q => lc_7 n (wrL q.2 233 6 q.1)))
def lc_5 (n : Nat) (g : Hp) : Option Hp := ((F_X12_letters n g 109 111 118 101 115 0 0).bind (fun q => lc_6 n (wrL q.2 233 5 q.1)))
def lc_4 (n : Nat) (g : Hp) : Option Hp := ((F_X12_letters n g 115 116 101 112 115 0 0).bind (fun q => lc_5 n (wrL q.2 233 4 q.1)))
def lc_3 (n : Nat) (g : Hp) : Option Hp := ((F_X12_letters n g 114 111 112 101 0 0 0).bind (fun q => lc_4 n (wrL q.2 233 3 q.1)))
def lc_2 (n : Nat) (g : Hp) : Option Hp := ((F_X12_letters n g 103 111 101 114 0 0 0).bind (fun q => lc_3 n (wrL q.2 233 2 q.1)))
def lc_1 (n : Nat) (g : Hp) : Option Hp := ((F_X12_letters n g 116 117 110 101 0 0 0).bind (fun q => lc_2 n (wrL q.2 233 1 q.1)))
def lc_0 (n : Nat) (g : Hp) : Option Hp := ((F_X12_letters n g 108 97 119 110 0 0 0).bind (fun q => lc_1 n (wrL q.2 233 0 q.1)))
section LC
variable {n : Nat} {h : Hp} {P : Hp → Prop}
theorem lc_w {q : Int64 × Hp} {k : Nat} (e : q.2 = h) : hi (wrL q.2 233 k q.1) = hi h := by
  show hi q.2 = hi h
  rw [e]
theorem lcs_0 (H : ∀ g, hi g = hi h → Ok (lc_1 n g) P) : Ok (lc_0 n h) P := Ok.bind lt_ok (fun q e => H _ (lc_w e))
theorem lcs_1 (H : ∀ g, hi g = hi h → Ok (lc_2 n g) P) : Ok (lc_1 n h) P := Ok.bind lt_ok (fun q e => H _ (lc_w e))
theorem lcs_2 (H : ∀ g, hi g = hi h → Ok (lc_3 n g) P) : Ok (lc_2 n h) P := Ok.bind lt_ok (fun q e => H _ (lc_w e))
theorem lcs_3 (H : ∀ g, hi g = hi h → Ok (lc_4 n g) P) : Ok (lc_3 n h) P := Ok.bind lt_ok (fun q e => H _ (lc_w e))
theorem lcs_4 (H : ∀ g, hi g = hi h → Ok (lc_5 n g) P) : Ok (lc_4 n h) P := Ok.bind lt_ok (fun q e => H _ (lc_w e))
theorem lcs_5 (H : ∀ g, hi g = hi h → Ok (lc_6 n g) P) : Ok (lc_5 n h) P := Ok.bind lt_ok (fun q e => H _ (lc_w e))
theorem lcs_6 (H : ∀ g, hi g = hi h → Ok (lc_7 n g) P) : Ok (lc_6 n h) P := Ok.bind lt_ok (fun q e => H _ (lc_w e))
theorem lcs_7 (H : ∀ g, hi g = hi h → Ok (lc_8 n g) P) : Ok (lc_7 n h) P := Ok.bind lt_ok (fun q e => H _ (lc_w e))
theorem lcs_8 (H : ∀ g, hi g = hi h → Ok (lc_9 n g) P) : Ok (lc_8 n h) P := Ok.bind lt_ok (fun q e => H _ (lc_w e))
theorem lcs_9 (H : ∀ g, hi g = hi h → Ok (lc_10 n g) P) : Ok (lc_9 n h) P := Ok.bind lt_ok (fun q e => H _ (lc_w e))
theorem lcs_10 (H : ∀ g, hi g = hi h → Ok (lc_11 n g) P) : Ok (lc_10 n h) P := Ok.bind lt_ok (fun q e => H _ (lc_w e))
theorem lcs_11 (H : ∀ g, hi g = hi h → Ok (lc_12 n g) P) : Ok (lc_11 n h) P := Ok.bind lt_ok (fun q e => H _ (lc_w e))
theorem lcs_12 (H : ∀ g, hi g = hi h → Ok (lc_13 n g) P) : Ok (lc_12 n h) P := Ok.bind lt_ok (fun q e => H _ (lc_w e))
theorem lcs_13 (H : ∀ g, hi g = hi h → Ok (lc_14 n g) P) : Ok (lc_13 n h) P := Ok.bind lt_ok (fun q e => H _ (lc_w e))
theorem lcs_14 (H : ∀ g, hi g = hi h → Ok (lc_15 n g) P) : Ok (lc_14 n h) P := Ok.bind lt_ok (fun q e => H _ (lc_w e))
theorem lcs_15 (H : ∀ g, hi g = hi h → Ok (lc_16 n g) P) : Ok (lc_15 n h) P := Ok.bind lt_ok (fun q e => H _ (lc_w e))
theorem lcs_16 (H : ∀ g, hi g = hi h → Ok (lc_17 n g) P) : Ok (lc_16 n h) P := Ok.bind lt_ok (fun q e => H _ (lc_w e))
theorem lcs_17 (H : ∀ g, hi g = hi h → Ok (lc_18 n g) P) : Ok (lc_17 n h) P := Ok.bind lt_ok (fun q e => H _ (lc_w e))
theorem lcs_18 (H : ∀ g, hi g = hi h → Ok (lc_19 n g) P) : Ok (lc_18 n h) P := Ok.bind lt_ok (fun q e => H _ (lc_w e))
theorem lcs_19 (H : ∀ g, hi g = hi h → Ok (lc_20 n g) P) : Ok (lc_19 n h) P := Ok.bind lt_ok (fun q e => H _ (lc_w e))
theorem lcs_20 (H : ∀ g, hi g = hi h → Ok (lc_21 n g) P) : Ok (lc_20 n h) P := Ok.bind lt_ok (fun q e => H _ (lc_w e))
theorem lcs_21 (H : ∀ g, hi g = hi h → Ok (lc_22 n g) P) : Ok (lc_21 n h) P := Ok.bind lt_ok (fun q e => H _ (lc_w e))
end LC
theorem tl_B {n : Nat} {q3 : Hp} {P : Hp → Prop} (H : ∀ g, hi g = hi q3 → Ok (lc_22 n g) P) : Ok (lc_0 n q3) P := by
  refine lcs_0 (fun g0 w0 => ?_)
  refine lcs_1 (fun g1 w1 => ?_)
  replace w1 := w1.trans w0
  refine lcs_2 (fun g2 w2 => ?_)
  replace w2 := w2.trans w1
  refine lcs_3 (fun g3 w3 => ?_)
  replace w3 := w3.trans w2
  refine lcs_4 (fun g4 w4 => ?_)
  replace w4 := w4.trans w3
  refine lcs_5 (fun g5 w5 => ?_)
  replace w5 := w5.trans w4
  refine lcs_6 (fun g6 w6 => ?_)
  replace w6 := w6.trans w5
  refine lcs_7 (fun g7 w7 => ?_)
  replace w7 := w7.trans w6
  refine lcs_8 (fun g8 w8 => ?_)
  replace w8 := w8.trans w7
  refine lcs_9 (fun g9 w9 => ?_)
  replace w9 := w9.trans w8
  refine lcs_10 (fun g10 w10 => ?_)
  replace w10 := w10.trans w9
  refine lcs_11 (fun g11 w11 => ?_)
  replace w11 := w11.trans w10
  refine lcs_12 (fun g12 w12 => ?_)
  replace w12 := w12.trans w11
  refine lcs_13 (fun g13 w13 => ?_)
  replace w13 := w13.trans w12
  refine lcs_14 (fun g14 w14 => ?_)
  replace w14 := w14.trans w13
  refine lcs_15 (fun g15 w15 => ?_)
  replace w15 := w15.trans w14
  refine lcs_16 (fun g16 w16 => ?_)
  replace w16 := w16.trans w15
  refine lcs_17 (fun g17 w17 => ?_)
  replace w17 := w17.trans w16
  refine lcs_18 (fun g18 w18 => ?_)
  replace w18 := w18.trans w17
  refine lcs_19 (fun g19 w19 => ?_)
  replace w19 := w19.trans w18
  refine lcs_20 (fun g20 w20 => ?_)
  replace w20 := w20.trans w19
  refine lcs_21 (fun g21 w21 => ?_)
  replace w21 := w21.trans w20
  exact H g21 w21
theorem tlG.cg {g q3 : Hp} (w : hi g = hi q3) (u : tlG q3) : tlG g := by
  unfold tlG
  rw [w]
  exact u
theorem tl_ok {h : Hp} {n : Nat} (hn : 3000 ≤ n) (z18 : hi h 226 18 = 0) : Ok (F_X12_tail n h) (tlP h) := by
  unfold F_X12_tail
  refine Ok.bind (sf_X12_plain (s := 0) (by omega) (by decide) lit_0) (fun q1 pa => ?_)
  refine Ok.bind (sf_X12_plain (s := 1) (by omega) (by decide) lit_1) (fun q3 pb => ?_)
  have r3 (a k : Nat) (n0 : ¬ plW 0 a k) (n1 : ¬ plW 1 a k) : hi q3 a k = hi h a k := (pb.1.1.1 a k n1).trans (pa.1.1.1 a k n0)
  have s3 (a : Nat) : hi q3 a 0 = hi q1 a 0 := pb.1.1.1 a 0 (by unfold plW; omega)
  obtain ⟨⟨-, u1, u2, u3, u4, u5⟩, u6⟩ := pa
  have u7 (k : Nat) (hk : k < 4) : (hi q3 250 k).toInt = (hi q3 251 k).toInt := by
    rw [pb.1.1.1 250 k (by unfold plW; omega), pb.1.1.1 251 k (by unfold plW; omega)]
    have := u6 k (by omega)
    rw [show 4 * 0 + k = k by omega] at this
    exact this
  have u : tlG q3 := ⟨by rw [s3]; exact u1, by rw [s3]; exact u2, by rw [s3]; exact u3, by rw [s3]; exact u4, by rw [s3]; exact u5, (r3 226 18 (by unfold plW; omega) (by unfold plW; omega)).trans z18, u7⟩
  show Ok (lc_0 n q3) (tlP h)
  refine tl_B (fun g w => (tl_C hn (u.cg w)).mono (fun q hq => ?_))
  obtain ⟨t1, t2, t3⟩ := hq
  rw [w] at t1
  refine ⟨fun a k n0 n1 n2 n3 n4 n5 => (t1 a k n0 n1 n2 n3).trans (r3 a k n4 n5), t2, t3, ⟨?_, ?_, ?_⟩, fun k hk => ?_⟩
  · rw [t1 235 0 (by decide) (by decide) (by decide) (by decide)]; exact u.1
  · rw [t1 236 0 (by decide) (by decide) (by decide) (by decide)]; exact u.2.1
  · rw [t1 242 0 (by decide) (by decide) (by decide) (by decide)]; exact u.2.2.2.1
  · rw [t1 250 k (by decide) (by decide) (by decide) (by omega), t1 251 k (by decide) (by decide) (by decide) (by omega)]; exact u7 k hk
theorem Ok.some' {α : Type} {o : Option α} {P : α → Prop} (h : Ok o P) : o.isSome = true := by
  obtain ⟨x, e, -⟩ := h
  rw [e]
  rfl
theorem Ok.getD {α : Type} {o : Option α} {P : α → Prop} (z : α) (h : Ok o P) : P (o.getD z) := by
  obtain ⟨x, e, p⟩ := h
  rw [e]
  exact p
theorem y18 : hi hk_505 226 18 = 0 := by decide +kernel
def hk_Y : Hp := (F_X12_tail 3000 hk_505).getD hE
theorem someY : (F_X12_tail 3000 hk_505).isSome = true := (tl_ok (Nat.le_refl 3000) y18).some'
theorem tlY : tlP hk_505 hk_Y := (tl_ok (Nat.le_refl 3000) y18).getD hE
