section
/-! WHAT IS MADE: the reference -/
theorem ap_ok {n : Nat} {h : Hp} {x1 : Int64} {x2 : Int32} : Ok (F_X12_appends n h x1 x2) (fun q => q.2 = h) := by
  unfold F_X12_appends
  exact Ok.ite (fun _ => Ok.ret rfl) (fun _ => Ok.ret rfl)
theorem lt_ok {n : Nat} {h : Hp} {x1 x2 x3 x4 x5 x6 x7 : Int32} : Ok (F_X12_letters n h x1 x2 x3 x4 x5 x6 x7) (fun q => q.2 = h) := by
  unfold F_X12_letters
  refine Ok.bind ap_ok (fun q1 e1 => ?_)
  rw [e1]
  refine Ok.bind ap_ok (fun q2 e2 => ?_)
  rw [e2]
  refine Ok.bind ap_ok (fun q3 e3 => ?_)
  rw [e3]
  refine Ok.bind ap_ok (fun q4 e4 => ?_)
  rw [e4]
  refine Ok.bind ap_ok (fun q5 e5 => ?_)
  rw [e5]
  refine Ok.bind ap_ok (fun q6 e6 => ?_)
  rw [e6]
  refine Ok.bind ap_ok (fun q7 e7 => ?_)
  exact Ok.ret e7
def tlP (h q : Hp) : Prop := (∀ a k, a ≠ 262 → a ≠ 263 → a ≠ 264 → ¬ (a = 226 ∧ (k = 55 ∨ k = 56)) → ¬ plW 0 a k → ¬ plW 1 a k → hi q a k = hi h a k) ∧ (∃ h1 : Hp, (∀ k, k < 63 → hi q 262 k = hi h1 263 k) ∧ (∀ k, hi q 263 k = hi h1 263 k) ∧ rwO 16 (hi h1 263) ∧ ovO (hi h1 263)) ∧ (∀ c, c < 16 → ∀ k, k < 5 → (hi q 264 (5 * c + k)).toInt = ((sdv 4 4 c k : Nat) : Int)) ∧ ((hi q 235 0).toInt = 4 ∧ (hi q 236 0).toInt = 4 ∧ (hi q 242 0).toInt = 0) ∧ ∀ k, k < 4 → (hi q 250 k).toInt = (hi q 251 k).toInt
def tlG (q3 : Hp) : Prop := (hi q3 235 0).toInt = 4 ∧ (hi q3 236 0).toInt = 4 ∧ (hi q3 237 0).toInt = 0 ∧ (hi q3 242 0).toInt = 0 ∧ (hi q3 245 0).toInt = 0 ∧ hi q3 226 18 = 0 ∧ ∀ k, k < 4 → (hi q3 250 k).toInt = (hi q3 251 k).toInt
def tlR (g q : Hp) : Prop := (∀ a k, a ≠ 262 → a ≠ 263 → a ≠ 264 → ¬ (a = 226 ∧ (k = 55 ∨ k = 56)) → hi q a k = hi g a k) ∧ (∃ h1 : Hp, (∀ k, k < 63 → hi q 262 k = hi h1 263 k) ∧ (∀ k, hi q 263 k = hi h1 263 k) ∧ rwO 16 (hi h1 263) ∧ ovO (hi h1 263)) ∧ (∀ c, c < 16 → ∀ k, k < 5 → (hi q 264 (5 * c + k)).toInt = ((sdv 4 4 c k : Nat) : Int))
theorem tl_H {g : Hp} (u : tlG g) : bgH 0 4 4 g := by
  obtain ⟨u1, u2, u3, u4, u5, z3, -⟩ := u
  have f0 := lit_0
  unfold bgH onL
  refine ⟨by omega, by omega, by omega, by rw [z3]; exact f0, u1, u2, ⟨fun k hk => ?_, fun k hk => ?_⟩, by omega, by omega, by omega⟩
  · exfalso; omega
  · exfalso; omega
theorem tl_C {n : Nat} (hn : 3000 ≤ n) {g : Hp} (u : tlG g) : Ok ((F_X12_begins n g).bind (fun q49 => ((F_X12_keepsRow n q49).bind (fun q51 => some q51)))) (tlR g) := by
  refine Ok.bind (sf_X12_begins (by omega) (tl_H u)) (fun q49 hq => ?_)
  obtain ⟨h1, v, hb, hp⟩ := hq
  refine Ok.bind (sf_X12_keepsRow (by omega)) (fun q cp => ?_)
  have r6 (a k : Nat) (n1 : a ≠ 263) (n2 : a ≠ 264) (n3 : ¬ (a = 226 ∧ (k = 55 ∨ k = 56))) : hi q49 a k = hi g a k := by
    rw [hp.1.1 a k n2, hi_wrI, if_neg (by omega), hi_wrI, if_neg (by omega)]
    exact hb.1.1 a k n1
  have e63 (k : Nat) : hi q49 263 k = hi h1 263 k := by
    rw [hp.1.1 263 k (by decide), hi_wrI, if_neg (by omega), hi_wrI, if_neg (by omega)]
  refine Ok.ret ⟨fun a k n0 n1 n2 n3 => (cp.1.1 a k n0).trans (r6 a k n1 n2 n3), ⟨h1, fun k hk => (cp.2.1 k hk).trans (e63 k), fun k => (cp.1.1 263 k (by decide)).trans (e63 k), hb.2.1, hb.2.2⟩, fun c hc k hk => ?_⟩
  rw [cp.1.1 264 _ (by decide)]
  exact hp.2 c hc k hk
def lc_22 (n : Nat) (g : Hp) : Option Hp := ((F_X12_begins n g).bind (fun q49 => ((F_X12_keepsRow n q49).bind (fun q51 => some q51))))
def lc_21 (n : Nat) (g : Hp) : Option Hp := ((F_X12_letters n g 116 117 110 101 115 0 0).bind (fun q => lc_22 n (wrL q.2 233 21 q.1)))
def lc_20 (n : Nat) (g : Hp) : Option Hp := ((F_X12_letters n g 104 105 103 104 0 0 0).bind (fun q => lc_21 n (wrL q.2 233 20 q.1)))
def lc_19 (n : Nat) (g : Hp) : Option Hp := ((F_X12_letters n g 119 105 100 101 0 0 0).bind (fun q => lc_20 n (wrL q.2 233 19 q.1)))
def lc_18 (n : Nat) (g : Hp) : Option Hp := ((F_X12_letters n g 119 104 105 99 104 0 0).bind (fun q => lc_19 n (wrL q.2 233 18 q.1)))
def lc_17 (n : Nat) (g : Hp) : Option Hp := ((F_X12_letters n g 109 111 118 101 100 0 0).bind (fun q => lc_18 n (wrL q.2 233 17 q.1)))
def lc_16 (n : Nat) (g : Hp) : Option Hp := ((F_X12_letters n g 98 101 97 116 0 0 0).bind (fun q => lc_17 n (wrL q.2 233 16 q.1)))
def lc_15 (n : Nat) (g : Hp) : Option Hp := ((F_X12_letters n g 116 105 109 101 0 0 0).bind (fun q => lc_16 n (wrL q.2 233 15 q.1)))
def lc_14 (n : Nat) (g : Hp) : Option Hp := ((F_X12_letters n g 116 111 112 0 0 0 0).bind (fun q => lc_15 n (wrL q.2 233 14 q.1)))
def lc_13 (n : Nat) (g : Hp) : Option Hp := ((F_X12_letters n g 108 101 102 116 0 0 0).bind (fun q => lc_14 n (wrL q.2 233 13 q.1)))
def lc_12 (n : Nat) (g : Hp) : Option Hp := ((F_X12_letters n g 101 108 115 101 0 0 0).bind (fun q => lc_13 n (wrL q.2 233 12 q.1)))
def lc_11 (n : Nat) (g : Hp) : Option Hp := ((F_X12_letters n g 116 104 101 110 0 0 0).bind (fun q => lc_12 n (wrL q.2 233 11 q.1)))
def lc_10 (n : Nat) (g : Hp) : Option Hp := ((F_X12_letters n g 105 102 0 0 0 0 0).bind (fun q => lc_11 n (wrL q.2 233 10 q.1)))
def lc_9 (n : Nat) (g : Hp) : Option Hp := ((F_X12_letters n g 115 101 101 100 0 0 0).bind (fun q => lc_10 n (wrL q.2 233 9 q.1)))
def lc_8 (n : Nat) (g : Hp) : Option Hp := ((F_X12_letters n g 119 101 116 0 0 0 0).bind (fun q => lc_9 n (wrL q.2 233 8 q.1)))
def lc_7 (n : Nat) (g : Hp) : Option Hp := ((F_X12_letters n g 99 111 115 116 115 0 0).bind (fun q => lc_8 n (wrL q.2 233 7 q.1)))
def lc_6 (n : Nat) (g : Hp) : Option Hp := ((F_X12_letters n g 115 112 114 101 97 100 115).bind (fun q => lc_7 n (wrL q.2 233 6 q.1)))
def lc_5 (n : Nat) (g : Hp) : Option Hp := ((F_X12_letters n g 109 111 118 101 115 0 0).bind (fun q => lc_6 n (wrL q.2 233 5 q.1)))
def lc_4 (n : Nat) (g : Hp) : Option Hp := ((F_X12_letters n g 115 116 101 112 115 0 0).bind (fun q => lc_5 n (wrL q.2 233 4 q.1)))
def lc_3 (n : Nat) (g : Hp) : Option Hp := ((F_X12_letters n g 114 111 112 101 0 0 0).bind (fun q => lc_4 n (wrL q.2 233 3 q.1)))
def lc_2 (n : Nat) (g : Hp) : Option Hp := ((F_X12_letters n g 103 111 101 114 0 0 0).bind (fun q => lc_3 n (wrL q.2 233 2 q.1)))
def lc_1 (n : Nat) (g : Hp) : Option Hp := ((F_X12_letters n g 116 117 110 101 0 0 0).bind (fun q => lc_2 n (wrL q.2 233 1 q.1)))
def lc_0 (n : Nat) (g : Hp) : Option Hp := ((F_X12_letters n g 108 97 119 110 0 0 0).bind (fun q => lc_1 n (wrL q.2 233 0 q.1)))
section LC
variable {n : Nat} {h : Hp} {P : Hp → Prop}
theorem lc_w {q : Int64 × Hp} {k : Nat} (e : q.2 = h) : hi (wrL q.2 233 k q.1) = hi h := by
  show hi q.2 = hi h
  rw [e]
theorem lcs_0 (H : ∀ g, hi g = hi h → Ok (lc_1 n g) P) : Ok (lc_0 n h) P := Ok.bind lt_ok (fun q e => H _ (lc_w e))
theorem lcs_1 (H : ∀ g, hi g = hi h → Ok (lc_2 n g) P) : Ok (lc_1 n h) P := Ok.bind lt_ok (fun q e => H _ (lc_w e))
theorem lcs_2 (H : ∀ g, hi g = hi h → Ok (lc_3 n g) P) : Ok (lc_2 n h) P := Ok.bind lt_ok (fun q e => H _ (lc_w e))
theorem lcs_3 (H : ∀ g, hi g = hi h → Ok (lc_4 n g) P) : Ok (lc_3 n h) P := Ok.bind lt_ok (fun q e => H _ (lc_w e))
theorem lcs_4 (H : ∀ g, hi g = hi h → Ok (lc_5 n g) P) : Ok (lc_4 n h) P := Ok.bind lt_ok (fun q e => H _ (lc_w e))
theorem lcs_5 (H : ∀ g, hi g = hi h → Ok (lc_6 n g) P) : Ok (lc_5 n h) P := Ok.bind lt_ok (fun q e => H _ (lc_w e))
theorem lcs_6 (H : ∀ g, hi g = hi h → Ok (lc_7 n g) P) : Ok (lc_6 n h) P := Ok.bind lt_ok (fun q e => H _ (lc_w e))
theorem lcs_7 (H : ∀ g, hi g = hi h → Ok (lc_8 n g) P) : Ok (lc_7 n h) P := Ok.bind lt_ok (fun q e => H _ (lc_w e))
theorem lcs_8 (H : ∀ g, hi g = hi h → Ok (lc_9 n g) P) : Ok (lc_8 n h) P := Ok.bind lt_ok (fun q e => H _ (lc_w e))
theorem lcs_9 (H : ∀ g, hi g = hi h → Ok (lc_10 n g) P) : Ok (lc_9 n h) P := Ok.bind lt_ok (fun q e => H _ (lc_w e))
theorem lcs_10 (H : ∀ g, hi g = hi h → Ok (lc_11 n g) P) : Ok (lc_10 n h) P := Ok.bind lt_ok (fun q e => H _ (lc_w e))
theorem lcs_11 (H : ∀ g, hi g = hi h → Ok (lc_12 n g) P) : Ok (lc_11 n h) P := Ok.bind lt_ok (fun q e => H _ (lc_w e))
theorem lcs_12 (H : ∀ g, hi g = hi h → Ok (lc_13 n g) P) : Ok (lc_12 n h) P := Ok.bind lt_ok (fun q e => H _ (lc_w e))
theorem lcs_13 (H : ∀ g, hi g = hi h → Ok (lc_14 n g) P) : Ok (lc_13 n h) P := Ok.bind lt_ok (fun q e => H _ (lc_w e))
theorem lcs_14 (H : ∀ g, hi g = hi h → Ok (lc_15 n g) P) : Ok (lc_14 n h) P := Ok.bind lt_ok (fun q e => H _ (lc_w e))
theorem lcs_15 (H : ∀ g, hi g = hi h → Ok (lc_16 n g) P) : Ok (lc_15 n h) P := Ok.bind lt_ok (fun q e => H _ (lc_w e))
theorem lcs_16 (H : ∀ g, hi g = hi h → Ok (lc_17 n g) P) : Ok (lc_16 n h) P := Ok.bind lt_ok (fun q e => H _ (lc_w e))
theorem lcs_17 (H : ∀ g, hi g = hi h → Ok (lc_18 n g) P) : Ok (lc_17 n h) P := Ok.bind lt_ok (fun q e => H _ (lc_w e))
theorem lcs_18 (H : ∀ g, hi g = hi h → Ok (lc_19 n g) P) : Ok (lc_18 n h) P := Ok.bind lt_ok (fun q e => H _ (lc_w e))
theorem lcs_19 (H : ∀ g, hi g = hi h → Ok (lc_20 n g) P) : Ok (lc_19 n h) P := Ok.bind lt_ok (fun q e => H _ (lc_w e))
theorem lcs_20 (H : ∀ g, hi g = hi h → Ok (lc_21 n g) P) : Ok (lc_20 n h) P := Ok.bind lt_ok (fun q e => H _ (lc_w e))
theorem lcs_21 (H : ∀ g, hi g = hi h → Ok (lc_22 n g) P) : Ok (lc_21 n h) P := Ok.bind lt_ok (fun q e => H _ (lc_w e))
end LC
theorem tl_B {n : Nat} {q3 : Hp} {P : Hp → Prop} (H : ∀ g, hi g = hi q3 → Ok (lc_22 n g) P) : Ok (lc_0 n q3) P := by
  refine lcs_0 (fun g0 w0 => ?_)
  refine lcs_1 (fun g1 w1 => ?_)
  replace w1 := w1.trans w0
  refine lcs_2 (fun g2 w2 => ?_)
  replace w2 := w2.trans w1
  refine lcs_3 (fun g3 w3 => ?_)
  replace w3 := w3.trans w2
  refine lcs_4 (fun g4 w4 => ?_)
  replace w4 := w4.trans w3
  refine lcs_5 (fun g5 w5 => ?_)
  replace w5 := w5.trans w4
  refine lcs_6 (fun g6 w6 => ?_)
  replace w6 := w6.trans w5
  refine lcs_7 (fun g7 w7 => ?_)
  replace w7 := w7.trans w6
  refine lcs_8 (fun g8 w8 => ?_)
  replace w8 := w8.trans w7
  refine lcs_9 (fun g9 w9 => ?_)
  replace w9 := w9.trans w8
  refine lcs_10 (fun g10 w10 => ?_)
  replace w10 := w10.trans w9
  refine lcs_11 (fun g11 w11 => ?_)
  replace w11 := w11.trans w10
  refine lcs_12 (fun g12 w12 => ?_)
  replace w12 := w12.trans w11
  refine lcs_13 (fun g13 w13 => ?_)
  replace w13 := w13.trans w12
  refine lcs_14 (fun g14 w14 => ?_)
  replace w14 := w14.trans w13
  refine lcs_15 (fun g15 w15 => ?_)
  replace w15 := w15.trans w14
  refine lcs_16 (fun g16 w16 => ?_)
  replace w16 := w16.trans w15
  refine lcs_17 (fun g17 w17 => ?_)
  replace w17 := w17.trans w16
  refine lcs_18 (fun g18 w18 => ?_)
  replace w18 := w18.trans w17
  refine lcs_19 (fun g19 w19 => ?_)
  replace w19 := w19.trans w18
  refine lcs_20 (fun g20 w20 => ?_)
  replace w20 := w20.trans w19
  refine lcs_21 (fun g21 w21 => ?_)
  replace w21 := w21.trans w20
  exact H g21 w21
theorem tlG.cg {g q3 : Hp} (w : hi g = hi q3) (u : tlG q3) : tlG g := by
  unfold tlG
  rw [w]
  exact u
theorem tl_ok {h : Hp} {n : Nat} (hn : 3000 ≤ n) (z18 : hi h 226 18 = 0) : Ok (F_X12_tail n h) (tlP h) := by
  unfold F_X12_tail
  refine Ok.bind (sf_X12_plain (s := 0) (by omega) (by decide) lit_0) (fun q1 pa => ?_)
  refine Ok.bind (sf_X12_plain (s := 1) (by omega) (by decide) lit_1) (fun q3 pb => ?_)
  have r3 (a k : Nat) (n0 : ¬ plW 0 a k) (n1 : ¬ plW 1 a k) : hi q3 a k = hi h a k := (pb.1.1.1 a k n1).trans (pa.1.1.1 a k n0)
  have s3 (a : Nat) : hi q3 a 0 = hi q1 a 0 := pb.1.1.1 a 0 (by unfold plW; omega)
  obtain ⟨⟨-, u1, u2, u3, u4, u5⟩, u6⟩ := pa
  have u7 (k : Nat) (hk : k < 4) : (hi q3 250 k).toInt = (hi q3 251 k).toInt := by
    rw [pb.1.1.1 250 k (by unfold plW; omega), pb.1.1.1 251 k (by unfold plW; omega)]
    have := u6 k (by omega)
    rw [show 4 * 0 + k = k by omega] at this
    exact this
  have u : tlG q3 := ⟨by rw [s3]; exact u1, by rw [s3]; exact u2, by rw [s3]; exact u3, by rw [s3]; exact u4, by rw [s3]; exact u5, (r3 226 18 (by unfold plW; omega) (by unfold plW; omega)).trans z18, u7⟩
  show Ok (lc_0 n q3) (tlP h)
  refine tl_B (fun g w => (tl_C hn (u.cg w)).mono (fun q hq => ?_))
  obtain ⟨t1, t2, t3⟩ := hq
  rw [w] at t1
  refine ⟨fun a k n0 n1 n2 n3 n4 n5 => (t1 a k n0 n1 n2 n3).trans (r3 a k n4 n5), t2, t3, ⟨?_, ?_, ?_⟩, fun k hk => ?_⟩
  · rw [t1 235 0 (by decide) (by decide) (by decide) (by decide)]; exact u.1
  · rw [t1 236 0 (by decide) (by decide) (by decide) (by decide)]; exact u.2.1
  · rw [t1 242 0 (by decide) (by decide) (by decide) (by decide)]; exact u.2.2.2.1
  · rw [t1 250 k (by decide) (by decide) (by decide) (by omega), t1 251 k (by decide) (by decide) (by decide) (by omega)]; exact u7 k hk
theorem Ok.some' {α : Type} {o : Option α} {P : α → Prop} (h : Ok o P) : o.isSome = true := by
  obtain ⟨x, e, -⟩ := h
  rw [e]
  rfl
theorem Ok.getD {α : Type} {o : Option α} {P : α → Prop} (z : α) (h : Ok o P) : P (o.getD z) := by
  obtain ⟨x, e, p⟩ := h
  rw [e]
  exact p
theorem y18 : hi hk_505 226 18 = 0 := by decide +kernel
def hk_Y : Hp := (F_X12_tail 3000 hk_505).getD hE
theorem someY : (F_X12_tail 3000 hk_505).isSome = true := (tl_ok (Nat.le_refl 3000) y18).some'
theorem tlY : tlP hk_505 hk_Y := (tl_ok (Nat.le_refl 3000) y18).getD hE
end
section
set_option maxHeartbeats 4000000 in
set_option maxRecDepth 100000 in
theorem k_Y_init (d : Nat) : Kc mX12_init (d + 3) [.ref 226] hk_500 (fun r h' => r = none ∧ h' = hk_Y ∧ G hk_Y) := by
  refine Kc.of [some (.ref 226)] ok_X12_init rfl (Nat.le_of_ble_eq_true rfl) ?_
  refine v_aload_n (i := 0) dX12_init_0 rfl rfl ?_
  refine v_objInit ml_X12_7 oi_im oi_code (Nat.le_of_ble_eq_true rfl) dX12_init_1 ?_
  refine v_aload_n (i := 0) dX12_init_4 rfl rfl ?_
  refine v_sipush (v := 2000) dX12_init_5 (by decide) ?_
  refine v_newarr (q := 227) (ty := .byte) (N := 2000) (by decide +kernel) rfl 1 (fun _ => rfl) sh_227 ac_byte ⟨nofun, nofun⟩ (fun _ => nofun) (fun _ => nofun) (by decide) (by decide) (by decide) dX12_init_8 ?_
  refine p_X12_13 rfl sh_226 (by decide +kernel) rfl dX12_init_10 ?_
  refine v_aload_n (i := 0) dX12_init_13 rfl rfl ?_
  refine v_sipush (v := 2000) dX12_init_14 (by decide) ?_
  refine v_newarr (q := 228) (ty := .byte) (N := 2000) (by decide +kernel) rfl 1 (fun _ => rfl) sh_228 ac_byte ⟨nofun, nofun⟩ (fun _ => nofun) (fun _ => nofun) (by decide) (by decide) (by decide) dX12_init_17 ?_
  refine p_X12_17 rfl sh_226 (by decide +kernel) rfl dX12_init_19 ?_
  refine v_aload_n (i := 0) dX12_init_22 rfl rfl ?_
  refine v_sipush (v := 403) dX12_init_23 (by decide) ?_
  refine v_newarr (q := 229) (ty := .int) (N := 403) (by decide +kernel) rfl 0 (fun _ => rfl) sh_229 ac_int ⟨nofun, nofun⟩ (fun _ => nofun) (fun _ => nofun) (by decide) (by decide) (by decide) dX12_init_26 ?_
  refine p_X12_20 rfl sh_226 (by decide +kernel) rfl dX12_init_28 ?_
  refine v_aload_n (i := 0) dX12_init_31 rfl rfl ?_
  refine v_sipush (v := 403) dX12_init_32 (by decide) ?_
  refine v_newarr (q := 230) (ty := .int) (N := 403) (by decide +kernel) rfl 0 (fun _ => rfl) sh_230 ac_int ⟨nofun, nofun⟩ (fun _ => nofun) (fun _ => nofun) (by decide) (by decide) (by decide) dX12_init_35 ?_
  refine p_X12_24 rfl sh_226 (by decide +kernel) rfl dX12_init_37 ?_
  refine v_aload_n (i := 0) dX12_init_40 rfl rfl ?_
  refine v_sipush (v := 403) dX12_init_41 (by decide) ?_
  refine v_newarr (q := 231) (ty := .int) (N := 403) (by decide +kernel) rfl 0 (fun _ => rfl) sh_231 ac_int ⟨nofun, nofun⟩ (fun _ => nofun) (fun _ => nofun) (by decide) (by decide) (by decide) dX12_init_44 ?_
  refine p_X12_27 rfl sh_226 (by decide +kernel) rfl dX12_init_46 ?_
  refine v_aload_n (i := 0) dX12_init_49 rfl rfl ?_
  refine v_sipush (v := 403) dX12_init_50 (by decide) ?_
  refine v_newarr (q := 232) (ty := .long) (N := 403) (by decide +kernel) rfl 4 (fun _ => rfl) sh_232 ac_long ⟨nofun, nofun⟩ (fun _ => nofun) (fun _ => nofun) (by decide) (by decide) (by decide) dX12_init_53 ?_
  refine p_X12_30 rfl sh_226 (by decide +kernel) rfl dX12_init_55 ?_
  refine v_aload_n (i := 0) dX12_init_58 rfl rfl ?_
  refine v_bipush (v := 22) dX12_init_59 (by decide) ?_
  refine v_newarr (q := 233) (ty := .long) (N := 22) (by decide +kernel) rfl 4 (fun _ => rfl) sh_233 ac_long ⟨nofun, nofun⟩ (fun _ => nofun) (fun _ => nofun) (by decide) (by decide) (by decide) dX12_init_61 ?_
  refine p_X12_34 rfl sh_226 (by decide +kernel) rfl dX12_init_63 ?_
  refine v_aload_n (i := 0) dX12_init_66 rfl rfl ?_
  refine v_iconst (v := (-1)) dX12_init_67 (by decide) ?_
  refine p_X12_37 rfl sh_226 (by decide +kernel) dX12_init_68 ?_
  refine v_aload_n (i := 0) dX12_init_71 rfl rfl ?_
  refine v_iconst (v := 5) dX12_init_72 (by decide) ?_
  refine v_newarr (q := 234) (ty := .long) (N := 5) (by decide +kernel) rfl 4 (fun _ => rfl) sh_234 ac_long ⟨nofun, nofun⟩ (fun _ => nofun) (fun _ => nofun) (by decide) (by decide) (by decide) dX12_init_73 ?_
  refine p_X12_40 rfl sh_226 (by decide +kernel) rfl dX12_init_75 ?_
  refine v_aload_n (i := 0) dX12_init_78 rfl rfl ?_
  refine v_iconst (v := 2) dX12_init_79 (by decide) ?_
  refine v_newarr (q := 235) (ty := .int) (N := 2) (by decide +kernel) rfl 0 (fun _ => rfl) sh_235 ac_int ⟨nofun, nofun⟩ (fun _ => nofun) (fun _ => nofun) (by decide) (by decide) (by decide) dX12_init_80 ?_
  refine p_X12_43 rfl sh_226 (by decide +kernel) rfl dX12_init_82 ?_
  refine v_aload_n (i := 0) dX12_init_85 rfl rfl ?_
  refine v_iconst (v := 2) dX12_init_86 (by decide) ?_
  refine v_newarr (q := 236) (ty := .int) (N := 2) (by decide +kernel) rfl 0 (fun _ => rfl) sh_236 ac_int ⟨nofun, nofun⟩ (fun _ => nofun) (fun _ => nofun) (by decide) (by decide) (by decide) dX12_init_87 ?_
  refine p_X12_46 rfl sh_226 (by decide +kernel) rfl dX12_init_89 ?_
  show V _ _ _ _ _ hk_501 _
  refine v_aload_n (i := 0) dX12_init_92 rfl rfl ?_
  refine v_iconst (v := 2) dX12_init_93 (by decide) ?_
  refine v_newarr (q := 237) (ty := .int) (N := 2) (by decide +kernel) rfl 0 (fun _ => rfl) sh_237 ac_int ⟨nofun, nofun⟩ (fun _ => nofun) (fun _ => nofun) (by decide) (by decide) (by decide) dX12_init_94 ?_
  refine p_X12_49 rfl sh_226 (by decide +kernel) rfl dX12_init_96 ?_
  refine v_aload_n (i := 0) dX12_init_99 rfl rfl ?_
  refine v_bipush (v := 16) dX12_init_100 (by decide) ?_
  refine v_newarr (q := 238) (ty := .int) (N := 16) (by decide +kernel) rfl 0 (fun _ => rfl) sh_238 ac_int ⟨nofun, nofun⟩ (fun _ => nofun) (fun _ => nofun) (by decide) (by decide) (by decide) dX12_init_102 ?_
  refine p_X12_52 rfl sh_226 (by decide +kernel) rfl dX12_init_104 ?_
  refine v_aload_n (i := 0) dX12_init_107 rfl rfl ?_
  refine v_bipush (v := 16) dX12_init_108 (by decide) ?_
  refine v_newarr (q := 239) (ty := .int) (N := 16) (by decide +kernel) rfl 0 (fun _ => rfl) sh_239 ac_int ⟨nofun, nofun⟩ (fun _ => nofun) (fun _ => nofun) (by decide) (by decide) (by decide) dX12_init_110 ?_
  refine p_X12_55 rfl sh_226 (by decide +kernel) rfl dX12_init_112 ?_
  refine v_aload_n (i := 0) dX12_init_115 rfl rfl ?_
  refine v_bipush (v := 16) dX12_init_116 (by decide) ?_
  refine v_newarr (q := 240) (ty := .int) (N := 16) (by decide +kernel) rfl 0 (fun _ => rfl) sh_240 ac_int ⟨nofun, nofun⟩ (fun _ => nofun) (fun _ => nofun) (by decide) (by decide) (by decide) dX12_init_118 ?_
  refine p_X12_58 rfl sh_226 (by decide +kernel) rfl dX12_init_120 ?_
  refine v_aload_n (i := 0) dX12_init_123 rfl rfl ?_
  refine v_bipush (v := 16) dX12_init_124 (by decide) ?_
  refine v_newarr (q := 241) (ty := .int) (N := 16) (by decide +kernel) rfl 0 (fun _ => rfl) sh_241 ac_int ⟨nofun, nofun⟩ (fun _ => nofun) (fun _ => nofun) (by decide) (by decide) (by decide) dX12_init_126 ?_
  refine p_X12_61 rfl sh_226 (by decide +kernel) rfl dX12_init_128 ?_
  refine v_aload_n (i := 0) dX12_init_131 rfl rfl ?_
  refine v_iconst (v := 2) dX12_init_132 (by decide) ?_
  refine v_newarr (q := 242) (ty := .int) (N := 2) (by decide +kernel) rfl 0 (fun _ => rfl) sh_242 ac_int ⟨nofun, nofun⟩ (fun _ => nofun) (fun _ => nofun) (by decide) (by decide) (by decide) dX12_init_133 ?_
  refine p_X12_64 rfl sh_226 (by decide +kernel) rfl dX12_init_135 ?_
  refine v_aload_n (i := 0) dX12_init_138 rfl rfl ?_
  refine v_bipush (v := 10) dX12_init_139 (by decide) ?_
  refine v_newarr (q := 243) (ty := .int) (N := 10) (by decide +kernel) rfl 0 (fun _ => rfl) sh_243 ac_int ⟨nofun, nofun⟩ (fun _ => nofun) (fun _ => nofun) (by decide) (by decide) (by decide) dX12_init_141 ?_
  refine p_X12_67 rfl sh_226 (by decide +kernel) rfl dX12_init_143 ?_
  refine v_aload_n (i := 0) dX12_init_146 rfl rfl ?_
  refine v_bipush (v := 10) dX12_init_147 (by decide) ?_
  refine v_newarr (q := 244) (ty := .int) (N := 10) (by decide +kernel) rfl 0 (fun _ => rfl) sh_244 ac_int ⟨nofun, nofun⟩ (fun _ => nofun) (fun _ => nofun) (by decide) (by decide) (by decide) dX12_init_149 ?_
  refine p_X12_70 rfl sh_226 (by decide +kernel) rfl dX12_init_151 ?_
  refine v_aload_n (i := 0) dX12_init_154 rfl rfl ?_
  refine v_iconst (v := 2) dX12_init_155 (by decide) ?_
  refine v_newarr (q := 245) (ty := .int) (N := 2) (by decide +kernel) rfl 0 (fun _ => rfl) sh_245 ac_int ⟨nofun, nofun⟩ (fun _ => nofun) (fun _ => nofun) (by decide) (by decide) (by decide) dX12_init_156 ?_
  refine p_X12_73 rfl sh_226 (by decide +kernel) rfl dX12_init_158 ?_
  refine v_aload_n (i := 0) dX12_init_161 rfl rfl ?_
  refine v_bipush (v := 16) dX12_init_162 (by decide) ?_
  refine v_newarr (q := 246) (ty := .int) (N := 16) (by decide +kernel) rfl 0 (fun _ => rfl) sh_246 ac_int ⟨nofun, nofun⟩ (fun _ => nofun) (fun _ => nofun) (by decide) (by decide) (by decide) dX12_init_164 ?_
  refine p_X12_76 rfl sh_226 (by decide +kernel) rfl dX12_init_166 ?_
  show V _ _ _ _ _ hk_502 _
  refine v_aload_n (i := 0) dX12_init_169 rfl rfl ?_
  refine v_bipush (v := 16) dX12_init_170 (by decide) ?_
  refine v_newarr (q := 247) (ty := .int) (N := 16) (by decide +kernel) rfl 0 (fun _ => rfl) sh_247 ac_int ⟨nofun, nofun⟩ (fun _ => nofun) (fun _ => nofun) (by decide) (by decide) (by decide) dX12_init_172 ?_
  refine p_X12_79 rfl sh_226 (by decide +kernel) rfl dX12_init_174 ?_
  refine v_aload_n (i := 0) dX12_init_177 rfl rfl ?_
  refine v_iconst (v := 2) dX12_init_178 (by decide) ?_
  refine v_newarr (q := 248) (ty := .int) (N := 2) (by decide +kernel) rfl 0 (fun _ => rfl) sh_248 ac_int ⟨nofun, nofun⟩ (fun _ => nofun) (fun _ => nofun) (by decide) (by decide) (by decide) dX12_init_179 ?_
  refine p_X12_82 rfl sh_226 (by decide +kernel) rfl dX12_init_181 ?_
  refine v_aload_n (i := 0) dX12_init_184 rfl rfl ?_
  refine v_iconst (v := 2) dX12_init_185 (by decide) ?_
  refine v_newarr (q := 249) (ty := .int) (N := 2) (by decide +kernel) rfl 0 (fun _ => rfl) sh_249 ac_int ⟨nofun, nofun⟩ (fun _ => nofun) (fun _ => nofun) (by decide) (by decide) (by decide) dX12_init_186 ?_
  refine p_X12_85 rfl sh_226 (by decide +kernel) rfl dX12_init_188 ?_
  refine v_aload_n (i := 0) dX12_init_191 rfl rfl ?_
  refine v_bipush (v := 8) dX12_init_192 (by decide) ?_
  refine v_newarr (q := 250) (ty := .int) (N := 8) (by decide +kernel) rfl 0 (fun _ => rfl) sh_250 ac_int ⟨nofun, nofun⟩ (fun _ => nofun) (fun _ => nofun) (by decide) (by decide) (by decide) dX12_init_194 ?_
  refine p_X12_88 rfl sh_226 (by decide +kernel) rfl dX12_init_196 ?_
  refine v_aload_n (i := 0) dX12_init_199 rfl rfl ?_
  refine v_bipush (v := 8) dX12_init_200 (by decide) ?_
  refine v_newarr (q := 251) (ty := .int) (N := 8) (by decide +kernel) rfl 0 (fun _ => rfl) sh_251 ac_int ⟨nofun, nofun⟩ (fun _ => nofun) (fun _ => nofun) (by decide) (by decide) (by decide) dX12_init_202 ?_
  refine p_X12_91 rfl sh_226 (by decide +kernel) rfl dX12_init_204 ?_
  refine v_aload_n (i := 0) dX12_init_207 rfl rfl ?_
  refine v_sipush (v := 260) dX12_init_208 (by decide) ?_
  refine v_newarr (q := 252) (ty := .boolean) (N := 260) (by decide +kernel) rfl 2 (fun _ => rfl) sh_252 ac_boolean ⟨nofun, nofun⟩ (fun _ => nofun) (fun _ => nofun) (by decide) (by decide) (by decide) dX12_init_211 ?_
  refine p_X12_94 rfl sh_226 (by decide +kernel) rfl dX12_init_213 ?_
  refine v_aload_n (i := 0) dX12_init_216 rfl rfl ?_
  refine v_sipush (v := 260) dX12_init_217 (by decide) ?_
  refine v_newarr (q := 253) (ty := .int) (N := 260) (by decide +kernel) rfl 0 (fun _ => rfl) sh_253 ac_int ⟨nofun, nofun⟩ (fun _ => nofun) (fun _ => nofun) (by decide) (by decide) (by decide) dX12_init_220 ?_
  refine p_X12_98 rfl sh_226 (by decide +kernel) rfl dX12_init_222 ?_
  refine v_aload_n (i := 0) dX12_init_225 rfl rfl ?_
  refine v_sipush (v := 260) dX12_init_226 (by decide) ?_
  refine v_newarr (q := 254) (ty := .int) (N := 260) (by decide +kernel) rfl 0 (fun _ => rfl) sh_254 ac_int ⟨nofun, nofun⟩ (fun _ => nofun) (fun _ => nofun) (by decide) (by decide) (by decide) dX12_init_229 ?_
  refine p_X12_101 rfl sh_226 (by decide +kernel) rfl dX12_init_231 ?_
  refine v_aload_n (i := 0) dX12_init_234 rfl rfl ?_
  refine v_sipush (v := 260) dX12_init_235 (by decide) ?_
  refine v_newarr (q := 255) (ty := .int) (N := 260) (by decide +kernel) rfl 0 (fun _ => rfl) sh_255 ac_int ⟨nofun, nofun⟩ (fun _ => nofun) (fun _ => nofun) (by decide) (by decide) (by decide) dX12_init_238 ?_
  refine p_X12_104 rfl sh_226 (by decide +kernel) rfl dX12_init_240 ?_
  refine v_aload_n (i := 0) dX12_init_243 rfl rfl ?_
  refine v_sipush (v := 260) dX12_init_244 (by decide) ?_
  refine v_newarr (q := 256) (ty := .int) (N := 260) (by decide +kernel) rfl 0 (fun _ => rfl) sh_256 ac_int ⟨nofun, nofun⟩ (fun _ => nofun) (fun _ => nofun) (by decide) (by decide) (by decide) dX12_init_247 ?_
  refine p_X12_107 rfl sh_226 (by decide +kernel) rfl dX12_init_249 ?_
  show V _ _ _ _ _ hk_503 _
  refine v_aload_n (i := 0) dX12_init_252 rfl rfl ?_
  refine v_sipush (v := 840) dX12_init_253 (by decide) ?_
  refine v_newarr (q := 257) (ty := .int) (N := 840) (by decide +kernel) rfl 0 (fun _ => rfl) sh_257 ac_int ⟨nofun, nofun⟩ (fun _ => nofun) (fun _ => nofun) (by decide) (by decide) (by decide) dX12_init_256 ?_
  refine p_X12_110 rfl sh_226 (by decide +kernel) rfl dX12_init_258 ?_
  refine v_aload_n (i := 0) dX12_init_261 rfl rfl ?_
  refine v_sipush (v := 840) dX12_init_262 (by decide) ?_
  refine v_newarr (q := 258) (ty := .int) (N := 840) (by decide +kernel) rfl 0 (fun _ => rfl) sh_258 ac_int ⟨nofun, nofun⟩ (fun _ => nofun) (fun _ => nofun) (by decide) (by decide) (by decide) dX12_init_265 ?_
  refine p_X12_113 rfl sh_226 (by decide +kernel) rfl dX12_init_267 ?_
  refine v_aload_n (i := 0) dX12_init_270 rfl rfl ?_
  refine v_bipush (v := 64) dX12_init_271 (by decide) ?_
  refine v_newarr (q := 259) (ty := .int) (N := 64) (by decide +kernel) rfl 0 (fun _ => rfl) sh_259 ac_int ⟨nofun, nofun⟩ (fun _ => nofun) (fun _ => nofun) (by decide) (by decide) (by decide) dX12_init_273 ?_
  refine p_X12_116 rfl sh_226 (by decide +kernel) rfl dX12_init_275 ?_
  refine v_aload_n (i := 0) dX12_init_278 rfl rfl ?_
  refine v_bipush (v := 9) dX12_init_279 (by decide) ?_
  refine v_newarr (q := 260) (ty := .int) (N := 9) (by decide +kernel) rfl 0 (fun _ => rfl) sh_260 ac_int ⟨nofun, nofun⟩ (fun _ => nofun) (fun _ => nofun) (by decide) (by decide) (by decide) dX12_init_281 ?_
  refine p_X12_119 rfl sh_226 (by decide +kernel) rfl dX12_init_283 ?_
  refine v_aload_n (i := 0) dX12_init_286 rfl rfl ?_
  refine v_sipush (v := 400) dX12_init_287 (by decide) ?_
  refine v_newarr (q := 261) (ty := .int) (N := 400) (by decide +kernel) rfl 0 (fun _ => rfl) sh_261 ac_int ⟨nofun, nofun⟩ (fun _ => nofun) (fun _ => nofun) (by decide) (by decide) (by decide) dX12_init_290 ?_
  refine p_X12_122 rfl sh_226 (by decide +kernel) rfl dX12_init_292 ?_
  refine v_aload_n (i := 0) dX12_init_295 rfl rfl ?_
  refine v_bipush (v := 63) dX12_init_296 (by decide) ?_
  refine v_newarr (q := 262) (ty := .int) (N := 63) (by decide +kernel) rfl 0 (fun _ => rfl) sh_262 ac_int ⟨nofun, nofun⟩ (fun _ => nofun) (fun _ => nofun) (by decide) (by decide) (by decide) dX12_init_298 ?_
  refine p_X12_125 rfl sh_226 (by decide +kernel) rfl dX12_init_300 ?_
  refine v_aload_n (i := 0) dX12_init_303 rfl rfl ?_
  refine v_bipush (v := 63) dX12_init_304 (by decide) ?_
  refine v_newarr (q := 263) (ty := .int) (N := 63) (by decide +kernel) rfl 0 (fun _ => rfl) sh_263 ac_int ⟨nofun, nofun⟩ (fun _ => nofun) (fun _ => nofun) (by decide) (by decide) (by decide) dX12_init_306 ?_
  refine p_X12_128 rfl sh_226 (by decide +kernel) rfl dX12_init_308 ?_
  refine v_aload_n (i := 0) dX12_init_311 rfl rfl ?_
  refine v_bipush (v := 125) dX12_init_312 (by decide) ?_
  refine v_newarr (q := 264) (ty := .int) (N := 125) (by decide +kernel) rfl 0 (fun _ => rfl) sh_264 ac_int ⟨nofun, nofun⟩ (fun _ => nofun) (fun _ => nofun) (by decide) (by decide) (by decide) dX12_init_314 ?_
  refine p_X12_131 rfl sh_226 (by decide +kernel) rfl dX12_init_316 ?_
  refine v_aload_n (i := 0) dX12_init_319 rfl rfl ?_
  refine v_iconst (v := 5) dX12_init_320 (by decide) ?_
  refine v_newarr (q := 265) (ty := .int) (N := 5) (by decide +kernel) rfl 0 (fun _ => rfl) sh_265 ac_int ⟨nofun, nofun⟩ (fun _ => nofun) (fun _ => nofun) (by decide) (by decide) (by decide) dX12_init_321 ?_
  refine p_X12_134 rfl sh_226 (by decide +kernel) rfl dX12_init_323 ?_
  refine v_aload_n (i := 0) dX12_init_326 rfl rfl ?_
  refine v_sipush (v := 2520) dX12_init_327 (by decide) ?_
  refine v_newarr (q := 266) (ty := .int) (N := 2520) (by decide +kernel) rfl 0 (fun _ => rfl) sh_266 ac_int ⟨nofun, nofun⟩ (fun _ => nofun) (fun _ => nofun) (by decide) (by decide) (by decide) dX12_init_330 ?_
  refine p_X12_137 rfl sh_226 (by decide +kernel) rfl dX12_init_332 ?_
  show V _ _ _ _ _ hk_504 _
  refine v_aload_n (i := 0) dX12_init_335 rfl rfl ?_
  refine v_bipush (v := 101) dX12_init_336 (by decide) ?_
  refine v_newarr (q := 267) (ty := .int) (N := 101) (by decide +kernel) rfl 0 (fun _ => rfl) sh_267 ac_int ⟨nofun, nofun⟩ (fun _ => nofun) (fun _ => nofun) (by decide) (by decide) (by decide) dX12_init_338 ?_
  refine p_X12_140 rfl sh_226 (by decide +kernel) rfl dX12_init_340 ?_
  refine v_aload_n (i := 0) dX12_init_343 rfl rfl ?_
  refine v_bipush (v := 101) dX12_init_344 (by decide) ?_
  refine v_newarr (q := 268) (ty := .int) (N := 101) (by decide +kernel) rfl 0 (fun _ => rfl) sh_268 ac_int ⟨nofun, nofun⟩ (fun _ => nofun) (fun _ => nofun) (by decide) (by decide) (by decide) dX12_init_346 ?_
  refine p_X12_143 rfl sh_226 (by decide +kernel) rfl dX12_init_348 ?_
  refine v_aload_n (i := 0) dX12_init_351 rfl rfl ?_
  refine v_bipush (v := 101) dX12_init_352 (by decide) ?_
  refine v_newarr (q := 269) (ty := .int) (N := 101) (by decide +kernel) rfl 0 (fun _ => rfl) sh_269 ac_int ⟨nofun, nofun⟩ (fun _ => nofun) (fun _ => nofun) (by decide) (by decide) (by decide) dX12_init_354 ?_
  refine p_X12_146 rfl sh_226 (by decide +kernel) rfl dX12_init_356 ?_
  refine v_aload_n (i := 0) dX12_init_359 rfl rfl ?_
  refine v_bipush (v := 32) dX12_init_360 (by decide) ?_
  refine v_newarr (q := 270) (ty := .int) (N := 32) (by decide +kernel) rfl 0 (fun _ => rfl) sh_270 ac_int ⟨nofun, nofun⟩ (fun _ => nofun) (fun _ => nofun) (by decide) (by decide) (by decide) dX12_init_362 ?_
  refine p_X12_149 rfl sh_226 (by decide +kernel) rfl dX12_init_364 ?_
  refine v_aload_n (i := 0) dX12_init_367 rfl rfl ?_
  refine v_bipush (v := 20) dX12_init_368 (by decide) ?_
  refine v_newarr (q := 271) (ty := .int) (N := 20) (by decide +kernel) rfl 0 (fun _ => rfl) sh_271 ac_int ⟨nofun, nofun⟩ (fun _ => nofun) (fun _ => nofun) (by decide) (by decide) (by decide) dX12_init_370 ?_
  refine p_X12_152 rfl sh_226 (by decide +kernel) rfl dX12_init_372 ?_
  refine v_aload_n (i := 0) dX12_init_375 rfl rfl ?_
  refine v_bipush (v := 20) dX12_init_376 (by decide) ?_
  refine v_newarr (q := 272) (ty := .boolean) (N := 20) (by decide +kernel) rfl 2 (fun _ => rfl) sh_272 ac_boolean ⟨nofun, nofun⟩ (fun _ => nofun) (fun _ => nofun) (by decide) (by decide) (by decide) dX12_init_378 ?_
  refine p_X12_155 rfl sh_226 (by decide +kernel) rfl dX12_init_380 ?_
  refine v_aload_n (i := 0) dX12_init_383 rfl rfl ?_
  refine v_iconst (v := 3) dX12_init_384 (by decide) ?_
  refine v_newarr (q := 273) (ty := .boolean) (N := 3) (by decide +kernel) rfl 2 (fun _ => rfl) sh_273 ac_boolean ⟨nofun, nofun⟩ (fun _ => nofun) (fun _ => nofun) (by decide) (by decide) (by decide) dX12_init_385 ?_
  refine p_X12_158 rfl sh_226 (by decide +kernel) rfl dX12_init_387 ?_
  refine v_aload_n (i := 0) dX12_init_390 rfl rfl ?_
  refine v_sipush (v := 189) dX12_init_391 (by decide) ?_
  refine v_newarr (q := 274) (ty := .int) (N := 189) (by decide +kernel) rfl 0 (fun _ => rfl) sh_274 ac_int ⟨nofun, nofun⟩ (fun _ => nofun) (fun _ => nofun) (by decide) (by decide) (by decide) dX12_init_394 ?_
  refine p_X12_161 rfl sh_226 (by decide +kernel) rfl dX12_init_396 ?_
  show V _ _ _ _ _ hk_505 _
  exact s_X12_tail d (ogetD hE someY) g12
theorem gY : G hk_Y := by
  obtain ⟨r, h', ⟨_, _, hg⟩, _⟩ := k_Y_init 0
  exact hg
end
section
/-! WHAT BOTH KEEP BETWEEN CALLS -/
/-- the reference's words, as it keeps them -/
def kyW : List (List Int) := [[108, 97, 119, 110], [116, 117, 110, 101], [103, 111, 101, 114], [114, 111, 112, 101], [115, 116, 101, 112, 115], [109, 111, 118, 101, 115], [115, 112, 114, 101, 97, 100, 115], [99, 111, 115, 116, 115], [119, 101, 116], [115, 101, 101, 100], [105, 102], [116, 104, 101, 110], [101, 108, 115, 101], [108, 101, 102, 116], [116, 111, 112], [116, 105, 109, 101], [98, 101, 97, 116], [109, 111, 118, 101, 100], [119, 104, 105, 99, 104], [119, 105, 100, 101], [104, 105, 103, 104], [116, 117, 110, 101, 115]]
/-- a word's number, in a base -/
def wnF (b : Int) (l : List Int) : Int := l.foldl (fun a c => b * a + (c - 96)) 0
def kyN (k : Nat) : Int := wnF 27 (kyW.getD k [])
def wdN32 (k : Nat) : Int := wnF 32 (kyW.getD (if k < 9 then 13 + k else k - 9) [])
/-- both tapes, the last place, the words of both -/
def Iv4 (h : Hp) : Prop := hi h 0 2 = hi h 226 17 ∧ (∀ k : Nat, (k : Int) < (hi h 0 1).toInt → hi h 1 k = hi h 227 k) ∧ (∀ k, k < 22 → (hl h 19 k).toInt = wdN32 k) ∧ ∀ k, k < 22 → (hl h 233 k).toInt = kyN k
def Iw (h : Hp) : Prop := (IX h ∧ dI h ∧ hi h 0 1 = hi h 226 2 ∧ ∀ k, 0 ≤ (hi h 229 k).toInt) ∧ Iv4 h
theorem IX.kX {h h' : Hp} (i : IX h) (k : kX h h') : IX h' := by
  have hc : ∀ q ∈ ckk, q.1 < 226 := by decide
  refine ⟨fun q hq => ?_, fun k' => ?_, fun k' => ?_⟩
  · rw [(k q.1 q.2.1 (hc q hq)).1]
    exact i.1 q hq
  · rw [(k 209 k' (by decide)).1]
    exact i.2.1 k'
  · rw [(k 210 k' (by decide)).1]
    exact i.2.2 k'
theorem dI.km {h h' : Hp} (d : dI h) (k : kM h h') : dI h' := d.fr rfl (fun a k' ha _ _ => (k a k' ha).1) (by rw [(k 226 2 (by decide)).1]; exact d.2.1)
theorem jS {h : Hp} (w : Iw h) : J h h := ⟨w.1.1, kM.rfl' h, kT.rf h⟩
theorem ix505 : ∀ q ∈ ckk, q.2.2.1 ≤ (hi hk_505 q.1 q.2.1).toInt ∧ (hi hk_505 q.1 q.2.1).toInt ≤ q.2.2.2 := by decide +kernel
theorem fl505 : hi hk_505 226 2 = 0 ∧ hi hk_505 226 59 = 0 ∧ hi hk_505 226 65 = 0 ∧ hi hk_505 0 1 = 0 ∧ ∀ k, k < 3 → hi hk_505 273 k = 0 := by decide +kernel
theorem ky505 : ∀ k, k < 22 → (hl hk_Y 233 k).toInt = kyN k := by decide +kernel
theorem wd505 : ∀ k, k < 22 → (hl hk_Y 19 k).toInt = wdN32 k := by decide +kernel
theorem pl505 : hi hk_505 226 17 = -1 ∧ hi hk_505 0 2 = -1 := by decide +kernel
theorem iwY : Iw hk_Y := by
  obtain ⟨t1, ⟨h1, t2, t3, t4, t5⟩, t6, ⟨t7, t8, t9⟩, t10⟩ := tlY
  obtain ⟨y2, y59, y65, y1, y73⟩ := fl505
  have f0 := lit_0
  have rf (k : Nat) (n : ¬ (k = 55 ∨ k = 56)) : hi hk_Y 226 k = hi hk_505 226 k := t1 226 k (by decide) (by decide) (by decide) (by omega) (by unfold plW; omega) (by unfold plW; omega)
  have ra (a k : Nat) (n : a < 226 ∨ a = 229 ∨ 265 ≤ a) : hi hk_Y a k = hi hk_505 a k := t1 a k (by omega) (by omega) (by omega) (by omega) (by unfold plW; omega) (by unfold plW; omega)
  have i2 : hi hk_Y 226 2 = 0 := (rf 2 (by decide)).trans y2
  have i18 : hi hk_Y 226 18 = 0 := (rf 18 (by decide)).trans y18
  have i59 : hi hk_Y 226 59 = 0 := (rf 59 (by decide)).trans y59
  have i65 : hi hk_Y 226 65 = 0 := (rf 65 (by decide)).trans y65
  have k18 : Int32.toNatClampNeg (hi hk_Y 226 18) = 0 := by rw [i18]; decide
  have ew : wdN hk_Y = 4 := by unfold wdN; rw [k18]; exact t7
  have eh : hgN hk_Y = 4 := by unfold hgN; rw [k18]; exact t8
  have eg : gnN hk_Y = 0 := by unfold gnN; rw [k18]; exact t9
  have ec : cnN hk_Y = 16 := by unfold cnN; rw [ew, eh]; rfl
  have q18 : (hi hk_Y 226 18).toInt = 0 := by rw [i18]; exact f0
  have r5 : sdO hk_Y := by
    intro c k hc hk
    rw [ew, eh]
    rw [ec] at hc
    exact t6 c (by omega) k hk
  have r6 : lwsO hk_Y := by
    intro i a b
    rw [q18] at a b
    exact Or.inl (t10 i (by omega))
  refine ⟨⟨⟨fun q hq => ?_, fun k => ?_, fun k => ?_⟩, ⟨⟨by omega, by omega, by omega, by omega, r5, r6, ?_, t5.cg t2, by rw [i65]; omega, by rw [i59]; omega⟩, by rw [i2]; omega, ?_, t5.cg (fun k _ => t3 k), fun k => ?_, fun u hu => ?_, fun u hu hx => ?_⟩, ?_, fun k => ?_⟩, ?_, fun k hk => ?_, wd505, ky505⟩
  · have hc : ∀ q ∈ ckk, q.1 < 226 := by decide
    rw [ra q.1 q.2.1 (Or.inl (hc q hq))]
    exact ix505 q hq
  · rw [ra 209 k (by decide), zh_505 (Or.inl rfl) k]; decide
  · rw [ra 210 k (by decide), zh_505 (Or.inr (Or.inl rfl)) k]; decide
  · rw [ec]; exact t4.cg t2
  · rw [ec]; exact t4.cg (fun k _ => t3 k)
  · show -1 ≤ (hi hk_Y 265 k).toInt ∧ (hi hk_Y 265 k).toInt < 25
    rw [ra 265 k (by decide), zh_505 (Or.inr (Or.inr (Or.inr rfl))) k]; decide
  · rw [i59] at hu; exfalso; omega
  · rw [ra 273 u (by decide), y73 u hu] at hx
    exact absurd (show (vp_nar .boolean (0 : Int32)).toInt = 0 by decide) hx
  · rw [i2, ra 0 1 (by decide)]; exact y1
  · rw [ra 229 k (by decide), zh_505 (Or.inr (Or.inr (Or.inl rfl))) k]; decide
  · rw [ra 0 2 (by decide), rf 17 (by decide), pl505.1, pl505.2]
  · exfalso
    rw [ra 0 1 (by decide), y1] at hk
    omega
end
section
/-! IF IT COMES TO ITS END: what then holds -/
def Pc {α : Type} (o : Option α) (P : α → Prop) : Prop := ∀ x, o = some x → P x
section PC
variable {α β : Type} {P Q : α → Prop} {R : β → Prop}
theorem Pc.ret {x : α} (h : P x) : Pc (some x) P := fun y e => by cases e; exact h
theorem Pc.no : Pc (none : Option α) P := fun y e => by cases e
theorem Pc.bind {o : Option α} {f : α → Option β} (h1 : Pc o Q) (h2 : ∀ x, Q x → Pc (f x) R) : Pc (o.bind f) R := by
  intro y e
  obtain ⟨x, e1, e2⟩ := Option.bind_eq_some_iff.mp e
  exact h2 x (h1 x e1) y e2
theorem Pc.mono {o : Option α} (h1 : Pc o Q) (h2 : ∀ x, Q x → P x) : Pc o P := fun x e => h2 x (h1 x e)
theorem Pc.ite {c : Prop} [Decidable c] {A B : Option α} (h1 : c → Pc A P) (h2 : ¬ c → Pc B P) : Pc (if c then A else B) P := by
  by_cases k : c
  · rw [if_pos k]; exact h1 k
  · rw [if_neg k]; exact h2 k
theorem Pc.pos {c : Prop} [Decidable c] {A B : Option α} (k : c) (h1 : Pc A P) : Pc (if c then A else B) P := by rw [if_pos k]; exact h1
theorem Pc.neg {c : Prop} [Decidable c] {A B : Option α} (k : ¬ c) (h1 : Pc B P) : Pc (if c then A else B) P := by rw [if_neg k]; exact h1
theorem Pc.chk {c : Prop} [Decidable c] {A : Option α} (h1 : c → Pc A P) : Pc (if c then A else none) P := Pc.ite h1 (fun _ => Pc.no)
theorem Pc.le {a b : Int32} {A B : Option α} (h1 : a.toInt ≤ b.toInt → Pc A P) (h2 : b.toInt < a.toInt → Pc B P) : Pc (if a ≤ b then A else B) P :=
  Pc.ite (fun k => h1 (Int32.le_iff_toInt_le.mp k)) (fun k => h2 (Int.not_le.mp (fun z => k (Int32.le_iff_toInt_le.mpr z))))
theorem Pc.lt {a b : Int32} {A B : Option α} (h1 : a.toInt < b.toInt → Pc A P) (h2 : b.toInt ≤ a.toInt → Pc B P) : Pc (if a < b then A else B) P :=
  Pc.ite (fun k => h1 (Int32.lt_iff_toInt_lt.mp k)) (fun k => h2 (Int.not_lt.mp (fun z => k (Int32.lt_iff_toInt_lt.mpr z))))
theorem Pc.eq {a b : Int32} {A B : Option α} (h1 : a.toInt = b.toInt → Pc A P) (h2 : a.toInt ≠ b.toInt → Pc B P) : Pc (if a = b then A else B) P :=
  Pc.ite (fun k => h1 (congrArg Int32.toInt k)) (fun k => h2 (fun z => k (Int32.toInt_inj.mp z)))
theorem Ok.pc {o : Option α} (h : Ok o P) : Pc o P := by
  obtain ⟨x, e, p⟩ := h
  intro y e2
  rw [e] at e2
  cases e2
  exact p
theorem Ok.and {o : Option α} (h : Ok o P) (k : Pc o Q) : Ok o (fun x => P x ∧ Q x) := by
  obtain ⟨x, e, p⟩ := h
  exact ⟨x, e, p, k x e⟩
end PC
theorem hl_wrI (h : Hp) (a k : Nat) (v : Int32) (a' k' : Nat) : hl (wrI h a k v) a' k' = hl h a' k' := rfl
theorem hl_wrL (h : Hp) (a k : Nat) (v : Int64) (a' k' : Nat) : hl (wrL h a k v) a' k' = if a' = a ∧ k' = k then v else hl h a' k' := rfl
def updP (P : Nat → Nat) (N p t : Nat) : Nat := if t = N then p else P t
theorem updP_eq {P : Nat → Nat} {N p : Nat} : updP P N p N = p := if_pos rfl
theorem updP_ne {P : Nat → Nat} {N p t : Nat} (h : t ≠ N) : updP P N p t = P t := if_neg h
/-! THE TEXT: bytes, runs of them -/
def isBl (c : Int) : Prop := c = 9 ∨ c = 10 ∨ c = 13 ∨ c = 32
def isLt (c : Int) : Prop := 97 ≤ c ∧ c ≤ 122
def isDg (c : Int) : Prop := 48 ≤ c ∧ c ≤ 57
def isSg (c : Int) : Prop := c = 40 ∨ c = 41 ∨ c = 42 ∨ c = 43 ∨ c = 45 ∨ c = 47 ∨ c = 59 ∨ c = 60 ∨ c = 61
/-- m bytes, nought behind -/
def BS (bs : Nat → Int) (m : Nat) : Prop := m ≤ 2000 ∧ (∀ i, m ≤ i → bs i = 0) ∧ ∀ i, 0 ≤ bs i ∧ bs i ≤ 255
/-- from i on p holds, as far as e, where it doesn't -/
def RunE (p : Int → Prop) (bs : Nat → Int) (i e : Nat) : Prop := i ≤ e ∧ (∀ j, i ≤ j → j < e → p (bs j)) ∧ ¬ p (bs e)
theorem RunE.uniq {p : Int → Prop} {bs : Nat → Int} {i e e' : Nat} (a : RunE p bs i e) (b : RunE p bs i e') : e = e' := by
  rcases Nat.lt_trichotomy e e' with h | h | h
  · exact absurd (b.2.1 e a.1 h) a.2.2
  · exact h
  · exact absurd (a.2.1 e' b.1 h) b.2.2
theorem RunE.stop {p : Int → Prop} {bs : Nat → Int} {i : Nat} (h : ¬ p (bs i)) : RunE p bs i i := ⟨Nat.le_refl i, fun j a b => by omega, h⟩
theorem RunE.step {p : Int → Prop} {bs : Nat → Int} {i e : Nat} (h : p (bs i)) (r : RunE p bs (i + 1) e) : RunE p bs i e := by
  refine ⟨by have := r.1; omega, fun j a b => ?_, r.2.2⟩
  by_cases z : j = i
  · rw [z]; exact h
  · exact r.2.1 j (by omega) b
/-- the first k of a run, as a number in a base; d: what a byte counts from -/
def wnR (b d : Int) (bs : Nat → Int) (i : Nat) : Nat → Int
  | 0 => 0
  | k + 1 => b * wnR b d bs i k + (bs (i + k) - d)
/-- the class's text: its bytes, how many -/
def SC (bs : Nat → Int) (m : Nat) (h : Hp) : Prop := (hi h 18 6).toInt = (m : Int) ∧ ∀ i, i < m → ((vp_nar .byte (hi h 1 i) : Int32) &&& 255).toInt = bs i
section LX
variable {bs : Nat → Int} {m : Nat} {h : Hp}
theorem pc_signAt {n : Nat} {x1 : Int32} (B : BS bs m) (S : SC bs m h) : Pc (F_X9_signAt n h x1) (fun q => q.2 = h ∧ ∀ i : Nat, x1.toInt = (i : Int) → q.1.toInt = bs i) := by
  have f0 := lit_0
  have f2 := lit_2000
  obtain ⟨s1, s2⟩ := S
  obtain ⟨b1, b2, b3⟩ := B
  unfold F_X9_signAt
  refine Pc.lt (fun c1 => Pc.ret ⟨rfl, fun i e => by omega⟩) (fun c1 => ?_)
  refine Pc.le (fun c2 => Pc.ret ⟨rfl, fun i e => ?_⟩) (fun c2 => ?_)
  · rw [b2 i (by omega)]; exact f0
  · refine Pc.le (fun c3 => by exfalso; omega) (fun c3 => ?_)
    refine Pc.chk (fun c4 => Pc.ret ⟨rfl, fun i e => ?_⟩)
    have n1 := ncT c1
    have n2 : Int32.toNatClampNeg x1 = i := by omega
    show ((vp_nar .byte (hi h 1 (Int32.toNatClampNeg x1)) : Int32) &&& 255).toInt = bs i
    rw [n2]
    exact s2 i (by omega)
theorem pc_isBlank {n : Nat} {x1 : Int32} : Pc (F_X9_isBlank n h x1) (fun q => q.2 = h ∧ (q.1.toInt ≠ 0 ↔ isBl x1.toInt)) := by
  have f0 := lit_0
  have f1 := lit_1
  have f9 := lit_9
  have f10 := lit_10
  have f13 := lit_13
  have f32 := lit_32
  unfold F_X9_isBlank isBl
  refine Pc.eq (fun c1 => Pc.ret ⟨rfl, ?_⟩) (fun c1 => Pc.eq (fun c2 => Pc.ret ⟨rfl, ?_⟩) (fun c2 => Pc.eq (fun c3 => Pc.ret ⟨rfl, ?_⟩) (fun c3 => Pc.eq (fun c4 => Pc.ret ⟨rfl, ?_⟩) (fun c4 => Pc.ret ⟨rfl, ?_⟩))))
  · show (1 : Int32).toInt ≠ 0 ↔ _
    omega
  · show (1 : Int32).toInt ≠ 0 ↔ _
    omega
  · show (1 : Int32).toInt ≠ 0 ↔ _
    omega
  · show (1 : Int32).toInt ≠ 0 ↔ _
    omega
  · show (0 : Int32).toInt ≠ 0 ↔ _
    omega
theorem pc_isLetter {n : Nat} {x1 : Int32} : Pc (F_X9_isLetter n h x1) (fun q => q.2 = h ∧ (q.1.toInt ≠ 0 ↔ isLt x1.toInt)) := by
  have f0 := lit_0
  have f1 := lit_1
  have f97 := lit_97
  have f122 := lit_122
  unfold F_X9_isLetter isLt
  refine Pc.lt (fun c1 => Pc.ret ⟨rfl, ?_⟩) (fun c1 => Pc.lt (fun c2 => Pc.ret ⟨rfl, ?_⟩) (fun c2 => Pc.ret ⟨rfl, ?_⟩))
  · show (0 : Int32).toInt ≠ 0 ↔ _
    omega
  · show (0 : Int32).toInt ≠ 0 ↔ _
    omega
  · show (1 : Int32).toInt ≠ 0 ↔ _
    omega
theorem pc_isDigit {n : Nat} {x1 : Int32} : Pc (F_X9_isDigit n h x1) (fun q => q.2 = h ∧ (q.1.toInt ≠ 0 ↔ isDg x1.toInt)) := by
  have f0 := lit_0
  have f1 := lit_1
  have f48 := lit_48
  have f57 := lit_57
  unfold F_X9_isDigit isDg
  refine Pc.lt (fun c1 => Pc.ret ⟨rfl, ?_⟩) (fun c1 => Pc.lt (fun c2 => Pc.ret ⟨rfl, ?_⟩) (fun c2 => Pc.ret ⟨rfl, ?_⟩))
  · show (0 : Int32).toInt ≠ 0 ↔ _
    omega
  · show (0 : Int32).toInt ≠ 0 ↔ _
    omega
  · show (1 : Int32).toInt ≠ 0 ↔ _
    omega
end LX
end
section
/-! THE CLASS: runs of bytes -/
section LX2
variable {bs : Nat → Int} {m : Nat} {h : Hp}
theorem pc_behindBlanks (B : BS bs m) (S : SC bs m h) {l1 : Int32} : ∀ (n : Nat) (l2 : Int32) (i : Nat), l2.toInt = (i : Int) → Pc (W_X9_behindBlanks n 2 h l1 l2) (fun q => q.2 = h ∧ ∃ e : Nat, q.1.toInt = (e : Int) ∧ RunE isBl bs i e ∧ (i ≤ m → e ≤ m)) := by
  have f1 := lit_1
  have f0 := lit_0
  intro n
  induction n with
  | zero => intro l2 i e; exact Pc.no
  | succ n ih =>
    intro l2 i e
    rw [u_X9_behindBlanks]
    refine Pc.pos rfl ?_
    have s1 := S.1
    have b1 := B.1
    refine Pc.le (fun c1 => Pc.ret ⟨rfl, i, e, RunE.stop ?_, fun z => z⟩) (fun c1 => ?_)
    · rw [B.2.1 i (by omega)]
      unfold isBl
      omega
    · refine Pc.bind (pc_signAt B S) (fun q2 h2 => ?_)
      rw [h2.1]
      have v2 := h2.2 i e
      refine Pc.bind pc_isBlank (fun q4 h4 => ?_)
      rw [h4.1]
      have v4 := h4.2
      rw [v2] at v4
      refine Pc.eq (fun c2 => Pc.ret ⟨rfl, i, e, RunE.stop (fun z => ?_), fun z => z⟩) (fun c2 => ?_)
      · exact absurd c2 (by rw [f0]; exact v4.mpr z)
      · have a1 := adT l2 1 (by omega) (by omega)
        refine (ih (l2 + 1) (i + 1) (by omega)).mono (fun q hq => ?_)
        obtain ⟨h5, e5, h6, h7, h8⟩ := hq
        exact ⟨h5, e5, h6, RunE.step (v4.mp (by rw [f0] at c2; exact c2)) h7, fun _ => h8 (by omega)⟩
theorem pc_behindLetters (B : BS bs m) (S : SC bs m h) {l1 : Int32} : ∀ (n : Nat) (l2 : Int32) (i : Nat), l2.toInt = (i : Int) → Pc (W_X9_behindLetters n 2 h l1 l2) (fun q => q.2 = h ∧ ∃ e : Nat, q.1.toInt = (e : Int) ∧ RunE isLt bs i e ∧ (i ≤ m → e ≤ m)) := by
  have f1 := lit_1
  have f0 := lit_0
  intro n
  induction n with
  | zero => intro l2 i e; exact Pc.no
  | succ n ih =>
    intro l2 i e
    rw [u_X9_behindLetters]
    refine Pc.pos rfl ?_
    have s1 := S.1
    have b1 := B.1
    refine Pc.le (fun c1 => Pc.ret ⟨rfl, i, e, RunE.stop ?_, fun z => z⟩) (fun c1 => ?_)
    · rw [B.2.1 i (by omega)]
      unfold isLt
      omega
    · refine Pc.bind (pc_signAt B S) (fun q2 h2 => ?_)
      rw [h2.1]
      have v2 := h2.2 i e
      refine Pc.bind pc_isLetter (fun q4 h4 => ?_)
      rw [h4.1]
      have v4 := h4.2
      rw [v2] at v4
      refine Pc.eq (fun c2 => Pc.ret ⟨rfl, i, e, RunE.stop (fun z => ?_), fun z => z⟩) (fun c2 => ?_)
      · exact absurd c2 (by rw [f0]; exact v4.mpr z)
      · have a1 := adT l2 1 (by omega) (by omega)
        refine (ih (l2 + 1) (i + 1) (by omega)).mono (fun q hq => ?_)
        obtain ⟨h5, e5, h6, h7, h8⟩ := hq
        exact ⟨h5, e5, h6, RunE.step (v4.mp (by rw [f0] at c2; exact c2)) h7, fun _ => h8 (by omega)⟩
theorem pc_behindDigits (B : BS bs m) (S : SC bs m h) {l1 : Int32} : ∀ (n : Nat) (l2 : Int32) (i : Nat), l2.toInt = (i : Int) → Pc (W_X9_behindDigits n 2 h l1 l2) (fun q => q.2 = h ∧ ∃ e : Nat, q.1.toInt = (e : Int) ∧ RunE isDg bs i e ∧ (i ≤ m → e ≤ m)) := by
  have f1 := lit_1
  have f0 := lit_0
  intro n
  induction n with
  | zero => intro l2 i e; exact Pc.no
  | succ n ih =>
    intro l2 i e
    rw [u_X9_behindDigits]
    refine Pc.pos rfl ?_
    have s1 := S.1
    have b1 := B.1
    refine Pc.le (fun c1 => Pc.ret ⟨rfl, i, e, RunE.stop ?_, fun z => z⟩) (fun c1 => ?_)
    · rw [B.2.1 i (by omega)]
      unfold isDg
      omega
    · refine Pc.bind (pc_signAt B S) (fun q2 h2 => ?_)
      rw [h2.1]
      have v2 := h2.2 i e
      refine Pc.bind pc_isDigit (fun q4 h4 => ?_)
      rw [h4.1]
      have v4 := h4.2
      rw [v2] at v4
      refine Pc.eq (fun c2 => Pc.ret ⟨rfl, i, e, RunE.stop (fun z => ?_), fun z => z⟩) (fun c2 => ?_)
      · exact absurd c2 (by rw [f0]; exact v4.mpr z)
      · have a1 := adT l2 1 (by omega) (by omega)
        refine (ih (l2 + 1) (i + 1) (by omega)).mono (fun q hq => ?_)
        obtain ⟨h5, e5, h6, h7, h8⟩ := hq
        exact ⟨h5, e5, h6, RunE.step (v4.mp (by rw [f0] at c2; exact c2)) h7, fun _ => h8 (by omega)⟩
end LX2
end
section
/-! LONGS, BYTES, SHORTS as numbers -/
theorem adL (a b : Int64) : -9223372036854775808 ≤ a.toInt + b.toInt → a.toInt + b.toInt ≤ 9223372036854775807 → (a + b).toInt = a.toInt + b.toInt := by
  intro h1 h2
  rw [Int64.toInt_add]
  exact Int.bmod_eq_of_le (by omega) (by omega)
theorem mlL (a b : Int64) (c : Int) (hc : b.toInt = c) : -9223372036854775808 ≤ a.toInt * c → a.toInt * c ≤ 9223372036854775807 → (a * b).toInt = a.toInt * c := by
  intro h1 h2
  rw [Int64.toInt_mul, hc]
  exact Int.bmod_eq_of_le (by omega) (by omega)
theorem mlL' (a b : Int64) (c : Int) (hc : a.toInt = c) : -9223372036854775808 ≤ c * b.toInt → c * b.toInt ≤ 9223372036854775807 → (a * b).toInt = c * b.toInt := by
  intro h1 h2
  rw [Int64.toInt_mul, hc]
  exact Int.bmod_eq_of_le (by omega) (by omega)
theorem t64 (x : Int32) : x.toInt64.toInt = x.toInt := Int32.toInt_toInt64 x
theorem lit32L : (32 : Int64).toInt = 32 := by decide
theorem lit27L : (27 : Int64).toInt = 27 := by decide
theorem lit0L : (0 : Int64).toInt = 0 := by decide
theorem lgz (x y : Int64) : (lg_cmp x y).toInt = 0 ↔ x.toInt = y.toInt := by
  unfold lg_cmp
  by_cases a : x > y
  · rw [if_pos a]
    have := Int64.lt_iff_toInt_lt.mp a
    have h1 := lit_1
    omega
  · rw [if_neg a]
    by_cases b : x = y
    · rw [if_pos b, b]
      exact ⟨fun _ => rfl, fun _ => lit_0⟩
    · rw [if_neg b]
      have h1 := lit_m1
      constructor
      · intro z; omega
      · intro z; exact absurd (Int64.toInt_inj.mp z) b
theorem b8 (x : Int32) (h1 : -128 ≤ x.toInt) (h2 : x.toInt < 128) : x.toInt8.toInt32 = x := by
  apply Int32.toInt_inj.mp
  rw [Int8.toInt_toInt32, Int32.toInt_toInt8]
  exact Int.bmod_eq_of_le (by omega) (by omega)
theorem b16 (x : Int32) (h1 : -32768 ≤ x.toInt) (h2 : x.toInt < 32768) : x.toInt16.toInt32 = x := by
  apply Int32.toInt_inj.mp
  rw [Int16.toInt_toInt32, Int32.toInt_toInt16]
  exact Int.bmod_eq_of_le (by omega) (by omega)
theorem narB (x : Int32) : vp_nar .byte x = x.toInt8.toInt32 := rfl
theorem narS (x : Int32) : vp_nar .short x = x.toInt16.toInt32 := rfl
/-! WORDS AND NUMBERS of a text -/
theorem wn_b {bs : Nat → Int} {i : Nat} {b d lo up : Int} (b0 : 1 ≤ b) (l0 : 0 ≤ lo) (lu : up + 1 ≤ b) : ∀ k, (∀ j, j < k → lo ≤ bs (i + j) - d ∧ bs (i + j) - d ≤ up) → 0 ≤ wnR b d bs i k ∧ wnR b d bs i k + 1 ≤ b ^ k := by
  intro k
  induction k with
  | zero => intro _; exact ⟨Int.le_refl 0, by show (0 : Int) + 1 ≤ b ^ 0; rw [Int.pow_zero]; decide⟩
  | succ k ih =>
    intro h
    obtain ⟨h1, h2⟩ := ih (fun j hj => h j (by omega))
    have h3 := h k (by omega)
    have e : b ^ (k + 1) = b * b ^ k := by rw [Int.pow_succ, Int.mul_comm]
    have m1 : b * (wnR b d bs i k + 1) ≤ b * b ^ k := Int.mul_le_mul_of_nonneg_left h2 (by omega)
    have m2 : 0 ≤ b * wnR b d bs i k := Int.mul_nonneg (by omega) h1
    rw [Int.mul_add, Int.mul_one] at m1
    show 0 ≤ b * wnR b d bs i k + (bs (i + k) - d) ∧ b * wnR b d bs i k + (bs (i + k) - d) + 1 ≤ b ^ (k + 1)
    rw [e]
    omega
theorem wn_32 {bs : Nat → Int} {i k : Nat} (hk : k ≤ 8) (h : ∀ j, i ≤ j → j < i + k → isLt (bs j)) : 0 ≤ wnR 32 96 bs i k ∧ wnR 32 96 bs i k ≤ 1099511627775 := by
  have a := wn_b (bs := bs) (i := i) (b := 32) (d := 96) (lo := 1) (up := 26) (by decide) (by decide) (by decide) k (fun j hj => by have := h (i + j) (by omega) (by omega); unfold isLt at this; omega)
  have b : (32 : Int) ^ k ≤ 1099511627776 := by
    rcases (show k = 0 ∨ k = 1 ∨ k = 2 ∨ k = 3 ∨ k = 4 ∨ k = 5 ∨ k = 6 ∨ k = 7 ∨ k = 8 by omega) with rfl | rfl | rfl | rfl | rfl | rfl | rfl | rfl | rfl <;> decide
  omega
theorem wn_27 {bs : Nat → Int} {i k : Nat} (hk : k ≤ 8) (h : ∀ j, i ≤ j → j < i + k → isLt (bs j)) : 0 ≤ wnR 27 96 bs i k ∧ wnR 27 96 bs i k ≤ 1099511627775 := by
  have a := wn_b (bs := bs) (i := i) (b := 27) (d := 96) (lo := 1) (up := 26) (by decide) (by decide) (by decide) k (fun j hj => by have := h (i + j) (by omega) (by omega); unfold isLt at this; omega)
  have b : (27 : Int) ^ k ≤ 1099511627776 := by
    rcases (show k = 0 ∨ k = 1 ∨ k = 2 ∨ k = 3 ∨ k = 4 ∨ k = 5 ∨ k = 6 ∨ k = 7 ∨ k = 8 by omega) with rfl | rfl | rfl | rfl | rfl | rfl | rfl | rfl | rfl <;> decide
  omega
theorem wn_10 {bs : Nat → Int} {i k : Nat} (hk : k ≤ 4) (h : ∀ j, i ≤ j → j < i + k → isDg (bs j)) : 0 ≤ wnR 10 48 bs i k ∧ wnR 10 48 bs i k ≤ 9999 := by
  have a := wn_b (bs := bs) (i := i) (b := 10) (d := 48) (lo := 0) (up := 9) (by decide) (by decide) (by decide) k (fun j hj => by have := h (i + j) (by omega) (by omega); unfold isDg at this; omega)
  have b : (10 : Int) ^ k ≤ 10000 := by
    rcases (show k = 0 ∨ k = 1 ∨ k = 2 ∨ k = 3 ∨ k = 4 by omega) with rfl | rfl | rfl | rfl | rfl <;> decide
  omega
/-- a word's number tells the word, in either base -/
theorem wn_inj {b b' : Int} (hb : 27 ≤ b) {bs bz : Nat → Int} {i i' : Nat} : ∀ k k', (∀ j, j < k → isLt (bs (i + j))) → (∀ j, j < k' → isLt (bz (i' + j))) → wnR b 96 bs i k = wnR b 96 bz i' k' → wnR b' 96 bs i k = wnR b' 96 bz i' k' := by
  have pos (bs : Nat → Int) (i : Nat) : ∀ k, (∀ j, j < k → isLt (bs (i + j))) → 0 ≤ wnR b 96 bs i k := fun k h => (wn_b (b := b) (d := 96) (lo := 1) (up := 26) (by omega) (by decide) (by omega) k (fun j hj => by have := h j hj; unfold isLt at this; omega)).1
  intro k
  induction k with
  | zero =>
    intro k' h1 h2 e
    cases k' with
    | zero => rfl
    | succ k' =>
      exfalso
      have p := pos bz i' k' (fun j hj => h2 j (by omega))
      have l := h2 k' (by omega)
      unfold isLt at l
      have e' : (0 : Int) = b * wnR b 96 bz i' k' + (bz (i' + k') - 96) := e
      have m := Int.mul_nonneg (show 0 ≤ b by omega) p
      omega
  | succ k ih =>
    intro k' h1 h2 e
    have p := pos bs i k (fun j hj => h1 j (by omega))
    have l := h1 k (by omega)
    unfold isLt at l
    have m := Int.mul_nonneg (show 0 ≤ b by omega) p
    cases k' with
    | zero =>
      exfalso
      have e' : b * wnR b 96 bs i k + (bs (i + k) - 96) = 0 := e
      omega
    | succ k' =>
      have p' := pos bz i' k' (fun j hj => h2 j (by omega))
      have l' := h2 k' (by omega)
      unfold isLt at l'
      have e' : b * wnR b 96 bs i k + (bs (i + k) - 96) = b * wnR b 96 bz i' k' + (bz (i' + k') - 96) := e
      have q1 : wnR b 96 bs i k = wnR b 96 bz i' k' := by
        rcases Int.lt_trichotomy (wnR b 96 bs i k) (wnR b 96 bz i' k') with z | z | z
        · exfalso
          have := Int.mul_le_mul_of_nonneg_left (show wnR b 96 bs i k + 1 ≤ wnR b 96 bz i' k' by omega) (show 0 ≤ b by omega)
          rw [Int.mul_add, Int.mul_one] at this
          omega
        · exact z
        · exfalso
          have := Int.mul_le_mul_of_nonneg_left (show wnR b 96 bz i' k' + 1 ≤ wnR b 96 bs i k by omega) (show 0 ≤ b by omega)
          rw [Int.mul_add, Int.mul_one] at this
          omega
      have q2 : bs (i + k) = bz (i' + k') := by rw [q1] at e'; omega
      have q3 := ih k' (fun j hj => h1 j (by omega)) (fun j hj => h2 j (by omega)) q1
      show b' * wnR b' 96 bs i k + (bs (i + k) - 96) = b' * wnR b' 96 bz i' k' + (bz (i' + k') - 96)
      rw [q2, q3]
end
section
/-! THE CLASS: words, numbers, one TOKEN kept -/
def KL (v r : Int) : Prop := (∃ k : Nat, k < 22 ∧ r = (k : Int) ∧ v = wdN32 k ∧ ∀ j, j < k → v ≠ wdN32 j) ∨ (r = 31 ∧ ∀ j, j < 22 → v ≠ wdN32 j)
def WD (h : Hp) : Prop := ∀ k, k < 22 → (hl h 19 k).toInt = wdN32 k
section LX3
variable {bs : Nat → Int} {m : Nat} {h : Hp}
theorem pc_lettersOf (B : BS bs m) (S : SC bs m h) {l1 l2 : Int32} {i e : Nat} (he : l2.toInt = (e : Int)) (e2 : e ≤ 2000) (hl' : ∀ j, i ≤ j → j < e → isLt (bs j)) : ∀ (n : Nat) (l3 : Int64) (l5 : Int32) (k : Nat), l5.toInt = ((i + k : Nat) : Int) → i + k ≤ e → (k ≤ 8 → l3.toInt = wnR 32 96 bs i k) → Pc (W_X9_lettersOf n 5 h l1 l2 l3 l5) (fun q => q.2 = h ∧ (e ≤ i + 8 → q.1.toInt = wnR 32 96 bs i (e - i))) := by
  have f1 := lit_1
  have f97 := lit_97
  intro n
  induction n with
  | zero => intro l3 l5 k a b c; exact Pc.no
  | succ n ih =>
    intro l3 l5 k a b c
    rw [u_X9_lettersOf]
    refine Pc.pos rfl ?_
    refine Pc.le (fun c1 => Pc.ret ⟨rfl, fun z => ?_⟩) (fun c1 => ?_)
    · have ek : e - i = k := by omega
      rw [ek]
      exact c (by omega)
    · refine Pc.bind (pc_signAt B S) (fun q2 h2 => ?_)
      rw [h2.1]
      have v2 := h2.2 (i + k) a
      refine Pc.bind (Q := fun q => q.2 = h ∧ q.1 = l3 * 32 + ((q2.1 - 97) + 1).toInt64) (by unfold F_X9_withLetter; exact Pc.ret ⟨rfl, rfl⟩) (fun q4 h4 => ?_)
      rw [h4.1]
      have a1 := adT l5 1 (by omega) (by omega)
      refine ih q4.1 (l5 + 1) (k + 1) (by omega) (by omega) (fun k8 => ?_)
      have w := c (by omega)
      have wb := wn_32 (bs := bs) (i := i) (k := k) (by omega) (fun j p q => hl' j p (by omega))
      have lt := hl' (i + k) (by omega) (by omega)
      unfold isLt at lt
      have s1 := sbT q2.1 97 (by omega) (by omega)
      have s2 := adT (q2.1 - 97) 1 (by omega) (by omega)
      have s3 := t64 ((q2.1 - 97) + 1)
      have s4 := mlL l3 32 32 lit32L (by omega) (by omega)
      have s5 := adL (l3 * 32) ((q2.1 - 97) + 1).toInt64 (by omega) (by omega)
      rw [h4.2, s5, s4, s3, s2, s1, w, v2, f97, f1]
      show wnR 32 96 bs i k * 32 + (bs (i + k) - 97 + 1) = 32 * wnR 32 96 bs i k + (bs (i + k) - 96)
      omega
theorem pc_kindOfLetters (W : WD h) {x1 : Int64} : ∀ (n : Nat) (l3 : Int32) (k : Nat), l3.toInt = (k : Int) → k ≤ 22 → (∀ j, j < k → x1.toInt ≠ wdN32 j) → Pc (W_X9_kindOfLetters n 2 h x1 l3) (fun q => q.2 = h ∧ KL x1.toInt q.1.toInt) := by
  have f1 := lit_1
  have f22 := lit_22
  have f0 := lit_0
  intro n
  induction n with
  | zero => intro l3 k a b c; exact Pc.no
  | succ n ih =>
    intro l3 k a b c
    rw [u_X9_kindOfLetters]
    refine Pc.pos rfl ?_
    refine Pc.le (fun c1 => Pc.ret ⟨rfl, Or.inr ⟨by show (31 : Int32).toInt = 31; decide, fun j hj => c j (by omega)⟩⟩) (fun c1 => ?_)
    refine Pc.chk (fun c2 => ?_)
    have n1 := ncT (show 0 ≤ l3.toInt by omega)
    have n2 : Int32.toNatClampNeg l3 = k := by omega
    rw [n2]
    have lz := lgz (hl h 19 k) x1
    rw [W k (by omega)] at lz
    refine Pc.eq (fun c3 => Pc.ret ⟨rfl, Or.inl ⟨k, by omega, a, ?_, c⟩⟩) (fun c3 => ?_)
    · exact (lz.mp (c3.trans f0)).symm
    · have a1 := adT l3 1 (by omega) (by omega)
      refine ih (l3 + 1) (k + 1) (by omega) (by omega) (fun j hj => ?_)
      by_cases z : j = k
      · rw [z]
        exact fun y => c3 ((lz.mpr y.symm).trans f0.symm)
      · exact c j (by omega)
theorem pc_numberOf (B : BS bs m) (S : SC bs m h) {l1 l2 : Int32} {i e : Nat} (he : l2.toInt = (e : Int)) (e2 : e ≤ 2000) (hl' : ∀ j, i ≤ j → j < e → isDg (bs j)) : ∀ (n : Nat) (l3 l4 : Int32) (k : Nat), l4.toInt = ((i + k : Nat) : Int) → i + k ≤ e → (k ≤ 4 → l3.toInt = wnR 10 48 bs i k) → Pc (W_X9_numberOf n 5 h l1 l2 l3 l4) (fun q => q.2 = h ∧ (e ≤ i + 4 → q.1.toInt = wnR 10 48 bs i (e - i))) := by
  have f1 := lit_1
  have f10 := lit_10
  have f48 := lit_48
  intro n
  induction n with
  | zero => intro l3 l4 k a b c; exact Pc.no
  | succ n ih =>
    intro l3 l4 k a b c
    rw [u_X9_numberOf]
    refine Pc.pos rfl ?_
    refine Pc.le (fun c1 => Pc.ret ⟨rfl, fun z => ?_⟩) (fun c1 => ?_)
    · have ek : e - i = k := by omega
      rw [ek]
      exact c (by omega)
    · refine Pc.bind (pc_signAt B S) (fun q2 h2 => ?_)
      rw [h2.1]
      have v2 := h2.2 (i + k) a
      have a1 := adT l4 1 (by omega) (by omega)
      refine ih _ (l4 + 1) (k + 1) (by omega) (by omega) (fun k8 => ?_)
      have w := c (by omega)
      have wb := wn_10 (bs := bs) (i := i) (k := k) (by omega) (fun j p q => hl' j p (by omega))
      have lt := hl' (i + k) (by omega) (by omega)
      unfold isDg at lt
      have s1 := sbT q2.1 48 (by omega) (by omega)
      have s4 := mlT 10 l3 10 lit_10 (by omega) (by omega)
      have s5 := adT (10 * l3) (q2.1 - 48) (by omega) (by omega)
      rw [s5, s4, s1, w, v2, f48]
      rfl
theorem pc_isSign {n : Nat} {x1 : Int32} : Pc (F_X9_isSign n h x1) (fun q => q.2 = h ∧ (q.1.toInt ≠ 0 ↔ isSg x1.toInt)) := by
  have f0 := lit_0
  have f1 := lit_1
  have l40 := lit_40
  have l41 := lit_41
  have l42 := lit_42
  have l43 := lit_43
  have l44 := lit_44
  have l45 := lit_45
  have l46 := lit_46
  have l47 := lit_47
  have l48 := lit_48
  have l49 := lit_49
  have l50 := lit_50
  have l51 := lit_51
  have l52 := lit_52
  have l53 := lit_53
  have l54 := lit_54
  have l55 := lit_55
  have l56 := lit_56
  have l57 := lit_57
  have l58 := lit_58
  have l59 := lit_59
  have l60 := lit_60
  have l61 := lit_61
  have yes : isSg x1.toInt → Pc (some ((1 : Int32), h)) (fun q => q.2 = h ∧ (q.1.toInt ≠ 0 ↔ isSg x1.toInt)) := fun z => Pc.ret ⟨rfl, fun _ => z, fun _ => by show (1 : Int32).toInt ≠ 0; omega⟩
  have no : ¬ isSg x1.toInt → Pc (some ((0 : Int32), h)) (fun q => q.2 = h ∧ (q.1.toInt ≠ 0 ↔ isSg x1.toInt)) := fun z => Pc.ret ⟨rfl, fun y => absurd f0 y, fun y => absurd y z⟩
  unfold F_X9_isSign
  refine Pc.eq (fun c => yes (by unfold isSg; omega)) (fun c40 => ?_)
  refine Pc.eq (fun c => yes (by unfold isSg; omega)) (fun c41 => ?_)
  refine Pc.eq (fun c => yes (by unfold isSg; omega)) (fun c42 => ?_)
  refine Pc.eq (fun c => yes (by unfold isSg; omega)) (fun c43 => ?_)
  refine Pc.eq (fun c => no (by unfold isSg; omega)) (fun c44 => ?_)
  refine Pc.eq (fun c => yes (by unfold isSg; omega)) (fun c45 => ?_)
  refine Pc.eq (fun c => no (by unfold isSg; omega)) (fun c46 => ?_)
  refine Pc.eq (fun c => yes (by unfold isSg; omega)) (fun c47 => ?_)
  refine Pc.eq (fun c => no (by unfold isSg; omega)) (fun c48 => ?_)
  refine Pc.eq (fun c => no (by unfold isSg; omega)) (fun c49 => ?_)
  refine Pc.eq (fun c => no (by unfold isSg; omega)) (fun c50 => ?_)
  refine Pc.eq (fun c => no (by unfold isSg; omega)) (fun c51 => ?_)
  refine Pc.eq (fun c => no (by unfold isSg; omega)) (fun c52 => ?_)
  refine Pc.eq (fun c => no (by unfold isSg; omega)) (fun c53 => ?_)
  refine Pc.eq (fun c => no (by unfold isSg; omega)) (fun c54 => ?_)
  refine Pc.eq (fun c => no (by unfold isSg; omega)) (fun c55 => ?_)
  refine Pc.eq (fun c => no (by unfold isSg; omega)) (fun c56 => ?_)
  refine Pc.eq (fun c => no (by unfold isSg; omega)) (fun c57 => ?_)
  refine Pc.eq (fun c => no (by unfold isSg; omega)) (fun c58 => ?_)
  refine Pc.eq (fun c => yes (by unfold isSg; omega)) (fun c59 => ?_)
  refine Pc.eq (fun c => yes (by unfold isSg; omega)) (fun c60 => ?_)
  exact Pc.eq (fun c => yes (by unfold isSg; omega)) (fun c61 => no (by unfold isSg; omega))
/-- a TOKEN's kind, where it ends, what it is worth: the class's numbers -/
def TkE (bs : Nat → Int) (i e : Nat) : Prop := (isLt (bs i) ∧ RunE isLt bs i e) ∨ (isDg (bs i) ∧ RunE isDg bs i e) ∨ (¬ isLt (bs i) ∧ ¬ isDg (bs i) ∧ e = i + 1)
def TkC (bs : Nat → Int) (i e : Nat) (kd : Int) (v : Int) : Prop := (isLt (bs i) ∧ ((i + 8 < e ∧ kd = 33) ∨ (e ≤ i + 8 ∧ KL (wnR 32 96 bs i (e - i)) kd ∧ v = wnR 32 96 bs i (e - i)))) ∨ (isDg (bs i) ∧ ((i + 4 < e ∧ kd = 33) ∨ (e ≤ i + 4 ∧ kd = 30 ∧ v = wnR 10 48 bs i (e - i)))) ∨ (isSg (bs i) ∧ kd = bs i) ∨ (¬ isLt (bs i) ∧ ¬ isDg (bs i) ∧ ¬ isSg (bs i) ∧ kd = 33)
/-- one more is kept -/
def KP (h h' : Hp) (x1 kd : Int32) (v : Int64) : Prop := (∀ a k, a ≠ 20 → a ≠ 21 → ¬ (a = 18 ∧ k = 5) → hi h' a k = hi h a k) ∧ (∀ a k, a ≠ 22 → hl h' a k = hl h a k) ∧ hi h' 18 5 = hi h 18 5 + 1 ∧ (∀ k, hi h' 20 k = if k = Int32.toNatClampNeg (hi h 18 5) then kd.toInt8.toInt32 else hi h 20 k) ∧ (∀ k, hi h' 21 k = if k = Int32.toNatClampNeg (hi h 18 5) then x1.toInt16.toInt32 else hi h 21 k) ∧ (∀ k, hl h' 22 k = if k = Int32.toNatClampNeg (hi h 18 5) then v else hl h 22 k)
def kpT (h : Hp) (x1 e kd : Int32) (v : Int64) : Option (Int32 × Hp) := (if (401 : Int32) ≤ ((hi h 18 5) : Int32) then some (e, h) else (if ixOK (hi h 18 5) 401 = true then (if ixOK (hi (wrI h 20 (Int32.toNatClampNeg (hi h 18 5)) kd.toInt8.toInt32) 18 5) 401 = true then (if ixOK (hi (wrI (wrI h 20 (Int32.toNatClampNeg (hi h 18 5)) kd.toInt8.toInt32) 21 (Int32.toNatClampNeg (hi (wrI h 20 (Int32.toNatClampNeg (hi h 18 5)) kd.toInt8.toInt32) 18 5)) x1.toInt16.toInt32) 18 5) 401 = true then some (e, (wrI (wrL (wrI (wrI h 20 (Int32.toNatClampNeg (hi h 18 5)) kd.toInt8.toInt32) 21 (Int32.toNatClampNeg (hi (wrI h 20 (Int32.toNatClampNeg (hi h 18 5)) kd.toInt8.toInt32) 18 5)) x1.toInt16.toInt32) 22 (Int32.toNatClampNeg (hi (wrI (wrI h 20 (Int32.toNatClampNeg (hi h 18 5)) kd.toInt8.toInt32) 21 (Int32.toNatClampNeg (hi (wrI h 20 (Int32.toNatClampNeg (hi h 18 5)) kd.toInt8.toInt32) 18 5)) x1.toInt16.toInt32) 18 5)) v) 18 5 ((hi (wrL (wrI (wrI h 20 (Int32.toNatClampNeg (hi h 18 5)) kd.toInt8.toInt32) 21 (Int32.toNatClampNeg (hi (wrI h 20 (Int32.toNatClampNeg (hi h 18 5)) kd.toInt8.toInt32) 18 5)) x1.toInt16.toInt32) 22 (Int32.toNatClampNeg (hi (wrI (wrI h 20 (Int32.toNatClampNeg (hi h 18 5)) kd.toInt8.toInt32) 21 (Int32.toNatClampNeg (hi (wrI h 20 (Int32.toNatClampNeg (hi h 18 5)) kd.toInt8.toInt32) 18 5)) x1.toInt16.toInt32) 18 5)) v) 18 5) + 1))) else none) else none) else none))
set_option maxRecDepth 100000 in
theorem pc_kpT {x1 e kd : Int32} {v : Int64} (k4 : (hi h 18 5).toInt < 401) : Pc (kpT h x1 e kd v) (fun q => q.1 = e ∧ KP h q.2 x1 kd v) := by
  have f4 := lit_401
  unfold kpT
  refine Pc.le (fun c1 => by exfalso; omega) (fun c1 => ?_)
  generalize ek : Int32.toNatClampNeg (hi h 18 5) = k
  generalize eg1 : wrI h 20 k kd.toInt8.toInt32 = g1
  have r1 : hi g1 18 5 = hi h 18 5 := hiA eg1 18 5 (by decide)
  rw [r1, ek]
  generalize eg2 : wrI g1 21 k x1.toInt16.toInt32 = g2
  have r2 : hi g2 18 5 = hi h 18 5 := (hiA eg2 18 5 (by decide)).trans r1
  rw [r2, ek]
  generalize eg3 : wrL g2 22 k v = g3
  have r3 : hi g3 18 5 = hi h 18 5 := (hiLL eg3 18 5).trans r2
  rw [r3]
  generalize eg4 : wrI g3 18 5 (hi h 18 5 + 1) = g4
  refine Pc.chk (fun _ => Pc.chk (fun _ => Pc.chk (fun _ => Pc.ret ⟨rfl, ?_⟩)))
  show KP h g4 x1 kd v
  unfold KP
  rw [ek]
  refine ⟨fun a z n1 n2 n3 => ?_, fun a z n1 => ?_, hiE eg4, fun z => ?_, fun z => ?_, fun z => ?_⟩
  · rw [← eg4, hi_wrI, if_neg n3, hiLL eg3, hiA eg2 a z n2, hiA eg1 a z n1]
  · rw [← eg4, hl_wrI, ← eg3, hl_wrL, if_neg (fun w => n1 w.1), ← eg2, hl_wrI, ← eg1, hl_wrI]
  · rw [hiA eg4 20 z (by decide), hiLL eg3, hiA eg2 20 z (by decide), ← eg1, hi_wrI]
    by_cases y : z = k
    · rw [if_pos ⟨rfl, y⟩, if_pos y]
    · rw [if_neg (fun w => y w.2), if_neg y]
  · rw [hiA eg4 21 z (by decide), hiLL eg3, ← eg2, hi_wrI]
    by_cases y : z = k
    · rw [if_pos ⟨rfl, y⟩, if_pos y]
    · rw [if_neg (fun w => y w.2), if_neg y, ← eg1, hi_wrI, if_neg (by omega)]
  · rw [← eg4, hl_wrI, ← eg3, hl_wrL]
    by_cases y : z = k
    · rw [if_pos ⟨rfl, y⟩, if_pos y]
    · rw [if_neg (fun w => y w.2), if_neg y, ← eg2, hl_wrI, ← eg1, hl_wrI]
end LX3
end
section
/-! THE CLASS: all TOKENS of a text -/
section LX4
variable {bs : Nat → Int} {m : Nat} {h : Hp}
theorem run_in {p : Int → Prop} (p0 : ¬ p 0) (B : BS bs m) {i e : Nat} (h : p (bs i)) (r : RunE p bs i e) : i < e ∧ e ≤ m := by
  have i1 : i ≠ e := fun z => r.2.2 (by rw [← z]; exact h)
  refine ⟨by have := r.1; omega, ?_⟩
  by_cases z : e ≤ m
  · exact z
  · exfalso
    have := r.2.1 (e - 1) (by have := r.1; omega) (by omega)
    rw [B.2.1 (e - 1) (by omega)] at this
    exact p0 this
theorem lt0 : ¬ isLt 0 := by unfold isLt; omega
theorem dg0 : ¬ isDg 0 := by unfold isDg; omega
def KQ (bs : Nat → Int) (m i : Nat) (h : Hp) (x1 : Int32) (q : Int32 × Hp) : Prop := ∃ (e : Nat) (kd : Int32) (v : Int64), q.1.toInt = (e : Int) ∧ e ≤ m ∧ TkE bs i e ∧ TkC bs i e kd.toInt v.toInt ∧ KP h q.2 x1 kd v
set_option maxHeartbeats 4000000 in
theorem pc_keep {n : Nat} {x1 : Int32} {i : Nat} (B : BS bs m) (S : SC bs m h) (W : WD h) (k4 : (hi h 18 5).toInt < 401) (hx : x1.toInt = (i : Int)) (him : i < m) : Pc (F_X9_keep n h x1) (KQ bs m i h x1) := by
  have f0 := lit_0
  have f1 := lit_1
  have f4 := lit_4
  have f8 := lit_8
  have b1 := B.1
  have a1 := adT x1 1 (by omega) (by omega)
  have l33 : (33 : Int32).toInt = 33 := by decide
  have l30 := lit_30
  unfold F_X9_keep
  refine Pc.bind (pc_signAt B S) (fun q1 h1 => ?_)
  rw [h1.1]
  have v1 := h1.2 i hx
  refine Pc.bind pc_isLetter (fun q3 h3 => ?_)
  rw [h3.1]
  have v3 := h3.2
  rw [v1] at v3
  refine Pc.eq (fun c1 => ?_) (fun c1 => ?_)
  · have nl : ¬ isLt (bs i) := fun z => v3.mpr z (c1.trans f0)
    refine Pc.bind pc_isDigit (fun q6 h6 => ?_)
    rw [h6.1]
    have v6 := h6.2
    rw [v1] at v6
    refine Pc.eq (fun c2 => ?_) (fun c2 => ?_)
    · have nd : ¬ isDg (bs i) := fun z => v6.mpr z (c2.trans f0)
      refine Pc.bind pc_isSign (fun q9 h9 => ?_)
      rw [h9.1]
      have v9 := h9.2
      rw [v1] at v9
      refine Pc.eq (fun c3 => ?_) (fun c3 => ?_)
      · refine Pc.mono (show Pc (kpT h x1 (x1 + 1) 33 0) _ from pc_kpT k4) (fun q hq => ⟨i + 1, 33, 0, by rw [hq.1]; omega, by omega, Or.inr (Or.inr ⟨nl, nd, rfl⟩), Or.inr (Or.inr (Or.inr ⟨nl, nd, fun z => v9.mpr z (c3.trans f0), l33⟩)), hq.2⟩)
      · refine Pc.mono (show Pc (kpT h x1 (x1 + 1) q1.1 0) _ from pc_kpT k4) (fun q hq => ⟨i + 1, q1.1, 0, by rw [hq.1]; omega, by omega, Or.inr (Or.inr ⟨nl, nd, rfl⟩), Or.inr (Or.inr (Or.inl ⟨v9.mp (by omega), v1⟩)), hq.2⟩)
    · have yd : isDg (bs i) := v6.mp (by omega)
      refine Pc.bind (by unfold F_X9_behindDigits; exact pc_behindDigits B S n x1 i hx) (fun q20 h20 => ?_)
      obtain ⟨e20, e, ee, re, -⟩ := h20
      rw [e20]
      have ri := run_in dg0 B yd re
      refine Pc.bind (by unfold F_X9_numberOf; exact pc_numberOf B S (l1 := x1) ee (by omega) re.2.1 n 0 x1 0 (by omega) (by omega) (fun _ => f0)) (fun q22 h22 => ?_)
      rw [h22.1]
      have s1 := sbT q20.1 x1 (by omega) (by omega)
      have s2 := t64 q22.1
      refine Pc.le (fun c3 => ?_) (fun c3 => ?_)
      · refine Pc.mono (show Pc (kpT h x1 q20.1 30 q22.1.toInt64) _ from pc_kpT k4) (fun q hq => ⟨e, 30, q22.1.toInt64, by rw [hq.1]; exact ee, ri.2, Or.inr (Or.inl ⟨yd, re⟩), Or.inr (Or.inl ⟨yd, Or.inr ⟨by omega, l30, ?_⟩⟩), hq.2⟩)
        rw [s2]
        exact h22.2 (by omega)
      · refine Pc.mono (show Pc (kpT h x1 q20.1 33 q22.1.toInt64) _ from pc_kpT k4) (fun q hq => ⟨e, 33, q22.1.toInt64, by rw [hq.1]; exact ee, ri.2, Or.inr (Or.inl ⟨yd, re⟩), Or.inr (Or.inl ⟨yd, Or.inl ⟨by omega, l33⟩⟩), hq.2⟩)
  · have yl : isLt (bs i) := v3.mp (by omega)
    refine Pc.bind (by unfold F_X9_behindLetters; exact pc_behindLetters B S n x1 i hx) (fun q33 h33 => ?_)
    obtain ⟨e33, e, ee, re, -⟩ := h33
    rw [e33]
    have ri := run_in lt0 B yl re
    refine Pc.bind (by unfold F_X9_lettersOf; exact pc_lettersOf B S (l1 := x1) ee (by omega) re.2.1 n 0 x1 0 (by omega) (by omega) (fun _ => lit0L)) (fun q35 h35 => ?_)
    rw [h35.1]
    have s1 := sbT q33.1 x1 (by omega) (by omega)
    refine Pc.le (fun c3 => ?_) (fun c3 => ?_)
    · refine Pc.bind (by unfold F_X9_kindOfLetters; exact pc_kindOfLetters W n 0 0 f0 (by omega) (fun j hj => by omega)) (fun q38 h38 => ?_)
      rw [h38.1]
      have w := h35.2 (by omega)
      have kl := h38.2
      rw [w] at kl
      exact Pc.mono (show Pc (kpT h x1 q33.1 q38.1 q35.1) _ from pc_kpT k4) (fun q hq => ⟨e, q38.1, q35.1, by rw [hq.1]; exact ee, ri.2, Or.inl ⟨yl, re⟩, Or.inl ⟨yl, Or.inr ⟨by omega, kl, w⟩⟩, hq.2⟩)
    · exact Pc.mono (show Pc (kpT h x1 q33.1 33 q35.1) _ from pc_kpT k4) (fun q hq => ⟨e, 33, q35.1, by rw [hq.1]; exact ee, ri.2, Or.inl ⟨yl, re⟩, Or.inl ⟨yl, Or.inl ⟨by omega, l33⟩⟩, hq.2⟩)
theorem tk_kd {i e : Nat} {kd v : Int} (t : TkC bs i e kd v) : 0 ≤ kd ∧ kd ≤ 61 := by
  rcases t with ⟨-, ⟨-, z⟩ | ⟨-, z, -⟩⟩ | ⟨-, ⟨-, z⟩ | ⟨-, z, -⟩⟩ | ⟨s, z⟩ | ⟨-, -, -, z⟩
  · omega
  · rcases z with ⟨k, k1, k2, -⟩ | ⟨k1, -⟩ <;> omega
  · omega
  · omega
  · unfold isSg at s; omega
  · omega
/-- TOKEN t as the class keeps it -/
def enC (h : Hp) (t : Nat) (i : Nat) (kd v : Int) : Prop := (vp_nar .byte (hi h 20 t)).toInt = kd ∧ (vp_nar .short (hi h 21 t)).toInt = (i : Int) ∧ (hl h 22 t).toInt = v
/-- the first N, where each begins -/
def TabC (bs : Nat → Int) (m : Nat) (h : Hp) (N : Nat) (P : Nat → Nat) : Prop := RunE isBl bs 0 (P 0) ∧ ∀ t, t < N → P t < m ∧ ∃ e, TkE bs (P t) e ∧ RunE isBl bs e (P (t + 1)) ∧ ∃ kd v, TkC bs (P t) e kd v ∧ enC h t (P t) kd v
/-- what scanning writes -/
def frS (h h' : Hp) : Prop := (∀ a k, a ≠ 20 → a ≠ 21 → ¬ (a = 18 ∧ (k = 5 ∨ k = 6)) → hi h' a k = hi h a k) ∧ ∀ a k, a ≠ 22 → hl h' a k = hl h a k
theorem TabC.add {h' : Hp} {N : Nat} {P : Nat → Nat} (B : BS bs m) (T : TabC bs m h N P) (kN : (hi h 18 5).toInt = (N : Int)) (hm : P N < m) {x1 kd : Int32} {v : Int64} {e p : Nat} (hx : x1.toInt = (P N : Int)) (te : TkE bs (P N) e) (tc : TkC bs (P N) e kd.toInt v.toInt) (kp : KP h h' x1 kd v) (r : RunE isBl bs e p) : TabC bs m h' (N + 1) (updP P (N + 1) p) := by
  have b1 := B.1
  have nk := ncT (show 0 ≤ (hi h 18 5).toInt by omega)
  have ek : Int32.toNatClampNeg (hi h 18 5) = N := by omega
  obtain ⟨-, -, -, k4, k5, k6⟩ := kp
  rw [ek] at k4 k5 k6
  have kr := tk_kd tc
  refine ⟨by rw [updP_ne (by omega)]; exact T.1, fun t ht => ?_⟩
  by_cases z : t = N
  · subst z
    rw [updP_ne (t := t) (by omega), updP_eq]
    refine ⟨hm, e, te, r, kd.toInt, v.toInt, tc, ?_, ?_, ?_⟩
    · rw [k4 t, if_pos rfl, narB, b8 kd (by omega) (by omega), b8 kd (by omega) (by omega)]
    · rw [k5 t, if_pos rfl, narS, b16 x1 (by omega) (by omega), b16 x1 (by omega) (by omega)]
      exact hx
    · rw [k6 t, if_pos rfl]
  · obtain ⟨a1, e', a2, a3, kd', v', a4, a5, a6, a7⟩ := T.2 t (by omega)
    rw [updP_ne (t := t) (by omega), updP_ne (t := t + 1) (by omega)]
    refine ⟨a1, e', a2, a3, kd', v', a4, ?_, ?_, ?_⟩
    · rw [k4 t, if_neg z]; exact a5
    · rw [k5 t, if_neg z]; exact a6
    · rw [k6 t, if_neg z]; exact a7
/-- all TOKENS that are kept -/
def ScP (bs : Nat → Int) (m : Nat) (h0 h : Hp) : Prop := frS h0 h ∧ (hi h 18 6).toInt = (m : Int) ∧ ∃ (N : Nat) (P : Nat → Nat), (hi h 18 5).toInt = (N : Int) ∧ N ≤ 401 ∧ TabC bs m h N P ∧ (N = 401 ∨ m ≤ P N)
theorem SC.cg {h' : Hp} (S : SC bs m h) (e1 : hi h' 18 6 = hi h 18 6) (e2 : ∀ k, hi h' 1 k = hi h 1 k) : SC bs m h' := ⟨by rw [e1]; exact S.1, fun i il => by rw [e2]; exact S.2 i il⟩
theorem pc_scanL (B : BS bs m) {h0 : Hp} {l1 : Int32} : ∀ (n : Nat) (h : Hp) (l2 l3 : Int32) (N : Nat) (P : Nat → Nat), SC bs m h → WD h → frS h0 h → (hi h 18 5).toInt = (N : Int) → l3.toInt = (N : Int) → N ≤ 401 → TabC bs m h N P → l2.toInt = (P N : Int) → Pc (W_X9_scan n 30 h l1 l2 l3) (ScP bs m h0) := by
  have f4 := lit_401
  have f1 := lit_1
  intro n
  induction n with
  | zero => intro h l2 l3 N P S W fr a b c T d; exact Pc.no
  | succ n ih =>
    intro h l2 l3 N P S W fr a b c T d
    rw [u_X9_scan]
    refine Pc.pos rfl ?_
    have s1 := S.1
    refine Pc.le (fun c1 => Pc.ret ⟨fr, s1, N, P, a, c, T, Or.inl (by omega)⟩) (fun c1 => ?_)
    refine Pc.le (fun c2 => Pc.ret ⟨fr, s1, N, P, a, c, T, Or.inr (by omega)⟩) (fun c2 => ?_)
    refine Pc.bind (pc_keep B S W (by omega) d (by omega)) (fun q3 h3 => ?_)
    obtain ⟨e, kd, v, h4, h5, te, tc, kp⟩ := h3
    have kp' := kp
    obtain ⟨k1, k2, k3, -, -, -⟩ := kp'
    have S' : SC bs m q3.2 := S.cg (k1 18 6 (by decide) (by decide) (by decide)) (fun k => k1 1 k (by decide) (by decide) (by omega))
    refine Pc.bind (by unfold F_X9_behindBlanks; exact pc_behindBlanks B S' n q3.1 e h4) (fun q5 h6 => ?_)
    obtain ⟨e6, p, e7, r, -⟩ := h6
    rw [e6]
    have a1 := adT l3 1 (by omega) (by omega)
    have a2 := adT (hi h 18 5) 1 (by omega) (by omega)
    refine ih q3.2 q5.1 (l3 + 1) (N + 1) _ S' (fun k hk => by rw [k2 19 k (by decide)]; exact W k hk) ⟨fun x k n1 n2 n3 => (k1 x k n1 n2 (by omega)).trans (fr.1 x k n1 n2 n3), fun x k n1 => (k2 x k n1).trans (fr.2 x k n1)⟩ (by rw [k3]; omega) (by omega) (by omega) (T.add B a (by omega) d te tc kp r) ?_
    rw [updP_eq]
    exact e7
theorem pc_scan (B : BS bs m) {n : Nat} {x1 : Int32} (hx : x1.toInt = (m : Int)) (W : WD h) (hb : ∀ i, i < m → ((vp_nar .byte (hi h 1 i) : Int32) &&& 255).toInt = bs i) : Pc (F_X9_scan n h x1) (ScP bs m h) := by
  have f2 := lit_2000
  have f0 := lit_0
  have b1 := B.1
  unfold F_X9_scan
  have e1 : (if (2000 : Int32) < x1 then (2000 : Int32) else x1) = x1 := by
    rw [if_neg (fun z => by have := Int32.lt_iff_toInt_lt.mp z; omega)]
  rw [e1]
  have e2 : (if (0 : Int32) < x1 then x1 else (0 : Int32)).toInt = (m : Int) := by
    by_cases z : (0 : Int32) < x1
    · rw [if_pos z]; exact hx
    · rw [if_neg z]
      have : ¬ (0 : Int32).toInt < x1.toInt := fun y => z (Int32.lt_iff_toInt_lt.mpr y)
      omega
  generalize (if (0 : Int32) < x1 then x1 else (0 : Int32)) = y at e2
  generalize eg : wrI (wrI h 18 6 y) 18 5 0 = g
  have g6 : hi g 18 6 = y := by rw [← eg, hi_wrI, if_neg (by decide), hi_wrI, if_pos ⟨rfl, rfl⟩]
  have g5 : hi g 18 5 = 0 := by rw [← eg, hi_wrI, if_pos ⟨rfl, rfl⟩]
  have fr : frS h g := by
    refine ⟨fun a k n1 n2 n3 => ?_, fun a k _ => ?_⟩
    · rw [← eg, hi_wrI, if_neg (by omega), hi_wrI, if_neg (by omega)]
    · rw [← eg]; rfl
  have S : SC bs m g := ⟨by rw [g6]; exact e2, fun i il => by rw [fr.1 1 i (by decide) (by decide) (by omega)]; exact hb i il⟩
  refine Pc.bind (by unfold F_X9_behindBlanks; exact pc_behindBlanks B S n 0 0 f0) (fun q7 h7 => ?_)
  obtain ⟨e7, p, e8, r, -⟩ := h7
  rw [e7]
  exact pc_scanL B n g q7.1 0 0 (fun _ => p) S (fun k hk => by rw [fr.2 19 k (by decide)]; exact W k hk) fr (by rw [g5]; exact f0) f0 (by omega) ⟨r, fun t ht => by omega⟩ e8
end LX4
end
section
/-! THE REFERENCE: bytes, one TOKEN laid down -/
def SR (bs : Nat → Int) (m : Nat) (h : Hp) : Prop := (hi h 226 4).toInt = (m : Int) ∧ ∀ i, i < m → ((vp_nar .byte (hi h 228 i) : Int32) &&& 255).toInt = bs i
def KY (h : Hp) : Prop := ∀ k, k < 22 → (hl h 233 k).toInt = kyN k
/-- a sign's kind -/
def sgK (c : Int) : Int := if c = 59 then 4 else if c = 61 then 5 else if c = 40 then 6 else if c = 41 then 7 else if c = 43 then 8 else if c = 45 then 9 else if c = 42 then 10 else if c = 47 then 15 else if c = 60 then 13 else 3
def RLk (v r : Int) : Prop := (∃ k : Nat, k < 22 ∧ r = 20 + (k : Int) ∧ v = kyN k) ∨ (r = 1 ∧ ∀ j, j < 22 → v ≠ kyN j)
def TkR (bs : Nat → Int) (i e : Nat) (kd v nm : Int) : Prop := (isLt (bs i) ∧ ((i + 8 < e ∧ kd = 3) ∨ (e ≤ i + 8 ∧ RLk (wnR 27 96 bs i (e - i)) kd ∧ nm = wnR 27 96 bs i (e - i)))) ∨ (isDg (bs i) ∧ ((i + 4 < e ∧ kd = 3) ∨ (e ≤ i + 4 ∧ kd = 2 ∧ v = wnR 10 48 bs i (e - i)))) ∨ (¬ isLt (bs i) ∧ ¬ isDg (bs i) ∧ kd = sgK (bs i))
/-- one more TOKEN -/
def KR (h h' : Hp) (x1 x2 x3 : Int32) (x4 : Int64) : Prop := (∀ a k, a ≠ 229 → a ≠ 230 → a ≠ 231 → ¬ (a = 226 ∧ k = 10) → hi h' a k = hi h a k) ∧ (∀ a k, a ≠ 232 → hl h' a k = hl h a k) ∧ hi h' 226 10 = hi h 226 10 + 1 ∧ (∀ k, hi h' 229 k = if k = Int32.toNatClampNeg (hi h 226 10) then x1 else hi h 229 k) ∧ (∀ k, hi h' 230 k = if k = Int32.toNatClampNeg (hi h 226 10) then x2 else hi h 230 k) ∧ (∀ k, hi h' 231 k = if k = Int32.toNatClampNeg (hi h 226 10) then x3 else hi h 231 k) ∧ (∀ k, hl h' 232 k = if k = Int32.toNatClampNeg (hi h 226 10) then x4 else hl h 232 k)
section RX
variable {bs : Nat → Int} {m : Nat} {h : Hp}
theorem pc_byteAt {n : Nat} {x1 : Int32} (B : BS bs m) (S : SR bs m h) : Pc (F_X12_byteAt n h x1) (fun q => q.2 = h ∧ ∀ i : Nat, x1.toInt = (i : Int) → q.1.toInt = bs i) := by
  have f0 := lit_0
  obtain ⟨s1, s2⟩ := S
  obtain ⟨b1, b2, b3⟩ := B
  unfold F_X12_byteAt
  refine Pc.le (fun c2 => Pc.ret ⟨rfl, fun i e => ?_⟩) (fun c2 => ?_)
  · rw [b2 i (by omega)]; exact f0
  · refine Pc.chk (fun c4 => Pc.ret ⟨rfl, fun i e => ?_⟩)
    have n1 := ncT (show 0 ≤ x1.toInt by omega)
    have n2 : Int32.toNatClampNeg x1 = i := by omega
    show ((vp_nar .byte (hi h 228 (Int32.toNatClampNeg x1)) : Int32) &&& 255).toInt = bs i
    rw [n2]
    exact s2 i (by omega)
theorem pr_isLetter {n : Nat} {x1 : Int32} : Pc (F_X12_isLetter n h x1) (fun q => q.2 = h ∧ (q.1.toInt ≠ 0 ↔ isLt x1.toInt)) := by
  have f0 := lit_0
  have f1 := lit_1
  have f97 := lit_97
  have f122 := lit_122
  unfold F_X12_isLetter isLt
  refine Pc.lt (fun c1 => Pc.ret ⟨rfl, ?_⟩) (fun c1 => Pc.lt (fun c2 => Pc.ret ⟨rfl, ?_⟩) (fun c2 => Pc.ret ⟨rfl, ?_⟩))
  · show (0 : Int32).toInt ≠ 0 ↔ _
    omega
  · show (0 : Int32).toInt ≠ 0 ↔ _
    omega
  · show (1 : Int32).toInt ≠ 0 ↔ _
    omega
theorem pr_isDigit {n : Nat} {x1 : Int32} : Pc (F_X12_isDigit n h x1) (fun q => q.2 = h ∧ (q.1.toInt ≠ 0 ↔ isDg x1.toInt)) := by
  have f0 := lit_0
  have f1 := lit_1
  have f48 := lit_48
  have f57 := lit_57
  unfold F_X12_isDigit isDg
  refine Pc.lt (fun c1 => Pc.ret ⟨rfl, ?_⟩) (fun c1 => Pc.lt (fun c2 => Pc.ret ⟨rfl, ?_⟩) (fun c2 => Pc.ret ⟨rfl, ?_⟩))
  · show (0 : Int32).toInt ≠ 0 ↔ _
    omega
  · show (0 : Int32).toInt ≠ 0 ↔ _
    omega
  · show (1 : Int32).toInt ≠ 0 ↔ _
    omega
theorem pr_token {n : Nat} {x1 x2 x3 : Int32} {x4 : Int64} : Pc (F_X12_token n h x1 x2 x3 x4) (fun q => KR h q x1 x2 x3 x4) := by
  unfold F_X12_token
  generalize ek : Int32.toNatClampNeg (hi h 226 10) = k
  generalize eg1 : wrI h 229 k x1 = g1
  have r1 : hi g1 226 10 = hi h 226 10 := hiA eg1 226 10 (by decide)
  rw [r1, ek]
  generalize eg2 : wrI g1 230 k x2 = g2
  have r2 : hi g2 226 10 = hi h 226 10 := (hiA eg2 226 10 (by decide)).trans r1
  rw [r2, ek]
  generalize eg3 : wrI g2 231 k x3 = g3
  have r3 : hi g3 226 10 = hi h 226 10 := (hiA eg3 226 10 (by decide)).trans r2
  rw [r3, ek]
  generalize eg4 : wrL g3 232 k x4 = g4
  have r4 : hi g4 226 10 = hi h 226 10 := (hiLL eg4 226 10).trans r3
  rw [r4]
  generalize eg5 : wrI g4 226 10 (hi h 226 10 + 1) = g5
  refine Pc.chk (fun _ => Pc.chk (fun _ => Pc.chk (fun _ => Pc.chk (fun _ => Pc.ret ?_))))
  unfold KR
  rw [ek]
  refine ⟨fun a z n1 n2 n3 n4 => ?_, fun a z n1 => ?_, hiE eg5, fun z => ?_, fun z => ?_, fun z => ?_, fun z => ?_⟩
  · rw [← eg5, hi_wrI, if_neg n4, hiLL eg4, hiA eg3 a z n3, hiA eg2 a z n2, hiA eg1 a z n1]
  · rw [← eg5, hl_wrI, ← eg4, hl_wrL, if_neg (fun w => n1 w.1), ← eg3, hl_wrI, ← eg2, hl_wrI, ← eg1, hl_wrI]
  · rw [hiA eg5 229 z (by decide), hiLL eg4, hiA eg3 229 z (by decide), hiA eg2 229 z (by decide), ← eg1, hi_wrI]
    by_cases y : z = k
    · rw [if_pos ⟨rfl, y⟩, if_pos y]
    · rw [if_neg (fun w => y w.2), if_neg y]
  · rw [hiA eg5 230 z (by decide), hiLL eg4, hiA eg3 230 z (by decide), ← eg2, hi_wrI]
    by_cases y : z = k
    · rw [if_pos ⟨rfl, y⟩, if_pos y]
    · rw [if_neg (fun w => y w.2), if_neg y, ← eg1, hi_wrI, if_neg (by omega)]
  · rw [hiA eg5 231 z (by decide), hiLL eg4, ← eg3, hi_wrI]
    by_cases y : z = k
    · rw [if_pos ⟨rfl, y⟩, if_pos y]
    · rw [if_neg (fun w => y w.2), if_neg y, ← eg2, hi_wrI, if_neg (by omega), ← eg1, hi_wrI, if_neg (by omega)]
  · rw [← eg5, hl_wrI, ← eg4, hl_wrL]
    by_cases y : z = k
    · rw [if_pos ⟨rfl, y⟩, if_pos y]
    · rw [if_neg (fun w => y w.2), if_neg y, ← eg3, hl_wrI, ← eg2, hl_wrI, ← eg1, hl_wrI]
theorem pr_sign {n : Nat} {x1 x2 x3 : Int32} : Pc (F_X12_sign n h x1 x2 x3) (fun q => q.1.toInt = 1 ∧ ∃ kd : Int32, kd.toInt = sgK x2.toInt ∧ KR h q.2 kd x1 0 0) := by
  have f1 := lit_1
  have l59 := lit_59
  have l61 := lit_61
  have l40 := lit_40
  have l41 := lit_41
  have l43 := lit_43
  have l45 := lit_45
  have l42 := lit_42
  have l47 := lit_47
  have l60 := lit_60
  have lf (c : Int32) (hc : c.toInt = sgK x2.toInt) : Pc ((F_X12_token n h c x1 0 0).bind (fun q => some ((1 : Int32), q))) (fun q => q.1.toInt = 1 ∧ ∃ kd : Int32, kd.toInt = sgK x2.toInt ∧ KR h q.2 kd x1 0 0) := Pc.bind pr_token (fun q hq => Pc.ret ⟨f1, c, hc, hq⟩)
  unfold F_X12_sign
  refine Pc.eq (fun c59 => ?_) (fun c59 => ?_)
  · refine Pc.neg (fun z => by have := congrArg Int32.toInt z; omega) ?_
    refine Pc.neg (fun z => by have := congrArg Int32.toInt z; omega) ?_
    refine Pc.neg (fun z => by have := congrArg Int32.toInt z; omega) ?_
    refine Pc.neg (fun z => by have := congrArg Int32.toInt z; omega) ?_
    refine Pc.neg (fun z => by have := congrArg Int32.toInt z; omega) ?_
    refine lf 4 ?_
    rw [show x2.toInt = 59 by omega]; decide
  · refine Pc.eq (fun c61 => ?_) (fun c61 => ?_)
    · refine Pc.neg (fun z => by have := congrArg Int32.toInt z; omega) ?_
      refine Pc.neg (fun z => by have := congrArg Int32.toInt z; omega) ?_
      refine Pc.neg (fun z => by have := congrArg Int32.toInt z; omega) ?_
      refine Pc.neg (fun z => by have := congrArg Int32.toInt z; omega) ?_
      refine Pc.neg (fun z => by have := congrArg Int32.toInt z; omega) ?_
      refine lf 5 ?_
      rw [show x2.toInt = 61 by omega]; decide
    · refine Pc.eq (fun c40 => ?_) (fun c40 => ?_)
      · refine Pc.neg (fun z => by have := congrArg Int32.toInt z; omega) ?_
        refine Pc.neg (fun z => by have := congrArg Int32.toInt z; omega) ?_
        refine Pc.neg (fun z => by have := congrArg Int32.toInt z; omega) ?_
        refine Pc.neg (fun z => by have := congrArg Int32.toInt z; omega) ?_
        refine Pc.neg (fun z => by have := congrArg Int32.toInt z; omega) ?_
        refine lf 6 ?_
        rw [show x2.toInt = 40 by omega]; decide
      · refine Pc.eq (fun c41 => ?_) (fun c41 => ?_)
        · refine Pc.neg (fun z => by have := congrArg Int32.toInt z; omega) ?_
          refine Pc.neg (fun z => by have := congrArg Int32.toInt z; omega) ?_
          refine Pc.neg (fun z => by have := congrArg Int32.toInt z; omega) ?_
          refine Pc.neg (fun z => by have := congrArg Int32.toInt z; omega) ?_
          refine Pc.neg (fun z => by have := congrArg Int32.toInt z; omega) ?_
          refine lf 7 ?_
          rw [show x2.toInt = 41 by omega]; decide
        · refine Pc.eq (fun c43 => ?_) (fun c43 => ?_)
          · refine Pc.neg (fun z => by have := congrArg Int32.toInt z; omega) ?_
            refine Pc.neg (fun z => by have := congrArg Int32.toInt z; omega) ?_
            refine Pc.neg (fun z => by have := congrArg Int32.toInt z; omega) ?_
            refine Pc.neg (fun z => by have := congrArg Int32.toInt z; omega) ?_
            refine lf 8 ?_
            rw [show x2.toInt = 43 by omega]; decide
          · refine Pc.eq (fun c45 => ?_) (fun c45 => ?_)
            · refine Pc.neg (fun z => by have := congrArg Int32.toInt z; omega) ?_
              refine Pc.neg (fun z => by have := congrArg Int32.toInt z; omega) ?_
              refine Pc.neg (fun z => by have := congrArg Int32.toInt z; omega) ?_
              refine lf 9 ?_
              rw [show x2.toInt = 45 by omega]; decide
            · refine Pc.eq (fun c42 => ?_) (fun c42 => ?_)
              · refine Pc.neg (fun z => by have := congrArg Int32.toInt z; omega) ?_
                refine Pc.neg (fun z => by have := congrArg Int32.toInt z; omega) ?_
                refine lf 10 ?_
                rw [show x2.toInt = 42 by omega]; decide
              · refine Pc.eq (fun c47 => ?_) (fun c47 => ?_)
                · refine Pc.neg (fun z => by have := congrArg Int32.toInt z; omega) ?_
                  refine lf 15 ?_
                  rw [show x2.toInt = 47 by omega]; decide
                · refine Pc.eq (fun c60 => ?_) (fun c60 => ?_)
                  · refine lf 13 ?_
                    rw [show x2.toInt = 60 by omega]; decide
                  · refine lf 3 ?_
                    unfold sgK; rw [if_neg (by omega), if_neg (by omega), if_neg (by omega), if_neg (by omega), if_neg (by omega), if_neg (by omega), if_neg (by omega), if_neg (by omega), if_neg (by omega)]; decide
end RX
end
section
/-! THE REFERENCE: all TOKENS of a text -/
def enR (h : Hp) (t i : Nat) (kd v nm : Int) : Prop := (hi h 229 t).toInt = kd ∧ (hi h 230 t).toInt = (i : Int) ∧ (hi h 231 t).toInt = v ∧ (hl h 232 t).toInt = nm
def TabR (bs : Nat → Int) (m : Nat) (h : Hp) (N : Nat) (P : Nat → Nat) (E : Nat) : Prop := (N = 0 → E = 0) ∧ (0 < N → RunE isBl bs 0 (P 0)) ∧ ∀ t, t < N → P t < m ∧ ∃ e, TkE bs (P t) e ∧ (t + 1 = N → E = e) ∧ (t + 1 < N → RunE isBl bs e (P (t + 1))) ∧ ∃ kd v nm, TkR bs (P t) e kd v nm ∧ enR h t (P t) kd v nm
def frR (h h' : Hp) : Prop := (∀ a k, a ≠ 229 → a ≠ 230 → a ≠ 231 → ¬ (a = 226 ∧ k = 10) → hi h' a k = hi h a k) ∧ ∀ a k, a ≠ 232 → hl h' a k = hl h a k
def CtP (bs : Nat → Int) (m : Nat) (h0 h : Hp) : Prop := frR h0 h ∧ ∃ (N : Nat) (P : Nat → Nat) (E : Nat), N ≤ 401 ∧ TabR bs m h N P E ∧ (N = 401 ∨ (N ≤ 400 ∧ (hi h 229 N).toInt = 0 ∧ (hi h 230 N).toInt = (m : Int) ∧ RunE isBl bs E m))
section RY
variable {bs : Nat → Int} {m : Nat} {h0 : Hp}
def I0 (bs : Nat → Int) (m : Nat) (h0 h : Hp) (N : Nat) (P : Nat → Nat) (E p : Nat) : Prop := SR bs m h ∧ KY h ∧ frR h0 h ∧ (hi h 226 10).toInt = (N : Int) ∧ TabR bs m h N P E ∧ E ≤ p ∧ ∀ j, E ≤ j → j < p → isBl (bs j)
theorem enR.cg {h h' : Hp} {t i : Nat} {kd v nm : Int} {x1 x2 x3 : Int32} {x4 : Int64} (k : KR h h' x1 x2 x3 x4) (n : t ≠ Int32.toNatClampNeg (hi h 226 10)) (e : enR h t i kd v nm) : enR h' t i kd v nm := by
  obtain ⟨-, -, -, k1, k2, k3, k4⟩ := k
  unfold enR
  rw [k1, if_neg n, k2, if_neg n, k3, if_neg n, k4, if_neg n]
  exact e
theorem I0.add {h h' : Hp} {N : Nat} {P : Nat → Nat} {E p e : Nat} (I : I0 bs m h0 h N P E p) (hp : p < m) (nb : ¬ isBl (bs p)) {x1 x2 x3 : Int32} {x4 : Int64} (te : TkE bs p e) (tr : TkR bs p e x1.toInt x3.toInt x4.toInt) (hx : x2.toInt = (p : Int)) (k : KR h h' x1 x2 x3 x4) (n4 : N ≤ 400) : I0 bs m h0 h' (N + 1) (updP P N p) e e := by
  obtain ⟨S, Y, fr, kN, T, ep, bl⟩ := I
  have nk := ncT (show 0 ≤ (hi h 226 10).toInt by omega)
  have ek : Int32.toNatClampNeg (hi h 226 10) = N := by omega
  have a1 := adT (hi h 226 10) 1 (by have := lit_1; omega) (by have := lit_1; omega)
  have f1 := lit_1
  have kk := k
  obtain ⟨k1, k2, k3, k4, k5, k6, k7⟩ := kk
  have rp : RunE isBl bs E p := ⟨ep, bl, nb⟩
  refine ⟨⟨by rw [k1 226 4 (by decide) (by decide) (by decide) (by decide)]; exact S.1, fun i il => by rw [k1 228 i (by decide) (by decide) (by decide) (by omega)]; exact S.2 i il⟩, fun j hj => by rw [k2 233 j (by decide)]; exact Y j hj, ⟨fun a z n1 n2 n3 n5 => (k1 a z n1 n2 n3 n5).trans (fr.1 a z n1 n2 n3 n5), fun a z n1 => (k2 a z n1).trans (fr.2 a z n1)⟩, by rw [k3]; omega, ⟨fun z => by omega, fun _ => ?_, fun t ht => ?_⟩, Nat.le_refl e, fun j a b => by omega⟩
  · by_cases z : N = 0
    · subst z
      rw [updP_eq]
      rw [T.1 rfl] at rp
      exact rp
    · rw [updP_ne (by omega)]
      exact T.2.1 (by omega)
  · by_cases z : t = N
    · subst z
      rw [updP_eq]
      refine ⟨hp, e, te, fun _ => rfl, fun y => by omega, x1.toInt, x3.toInt, x4.toInt, tr, ?_⟩
      unfold enR
      rw [k4, if_pos ek.symm, k5, if_pos ek.symm, k6, if_pos ek.symm, k7, if_pos ek.symm]
      exact ⟨rfl, hx, rfl, rfl⟩
    · rw [updP_ne z]
      obtain ⟨b1, e', b2, b3, b4, kd, v, nm, b5, b6⟩ := T.2.2 t (by omega)
      refine ⟨b1, e', b2, fun y => by omega, fun y => ?_, kd, v, nm, b5, b6.cg k (by omega)⟩
      by_cases w : t + 1 = N
      · rw [w, updP_eq, ← b3 w]
        exact rp
      · rw [updP_ne w]
        exact b4 (by omega)
theorem bl_no {c : Int} (h1 : isLt c ∨ isDg c) : ¬ isBl c := by unfold isLt isDg at h1; unfold isBl; omega
theorem lt_dg {c : Int} (h1 : isLt c) : ¬ isDg c := by unfold isLt at h1; unfold isDg; omega
theorem wn_ap {bs : Nat → Int} {p k : Nat} {x : Int64} {c : Int32} (k8 : k < 8) (hl : ∀ j, p ≤ j → j < p + k → isLt (bs j)) (hx : x.toInt = wnR 27 96 bs p k) (hc : c.toInt = bs (p + k)) (lc : isLt (bs (p + k))) {n : Nat} {h : Hp} : Pc (F_X12_appends n h x c) (fun q => q.2 = h ∧ q.1.toInt = wnR 27 96 bs p (k + 1)) := by
  have f0 := lit_0
  have f1 := lit_1
  have f97 := lit_97
  unfold isLt at lc
  have wb := wn_27 (bs := bs) (i := p) (k := k) (by omega) hl
  have s1 := sbT c 97 (by omega) (by omega)
  have s2 := adT (c - 97) 1 (by omega) (by omega)
  have s3 := t64 ((c - 97) + 1)
  have s4 := mlL' 27 x 27 lit27L (by omega) (by omega)
  have s5 := adL (27 * x) ((c - 97) + 1).toInt64 (by omega) (by omega)
  unfold F_X12_appends
  refine Pc.eq (fun c1 => by exfalso; omega) (fun c1 => Pc.ret ⟨rfl, ?_⟩)
  show (27 * x + ((c - 97) + 1).toInt64).toInt = 27 * wnR 27 96 bs p k + (bs (p + k) - 96)
  omega
set_option maxHeartbeats 4000000 in
theorem pr_cutL (B : BS bs m) : ∀ n : Nat,
    (∀ (h : Hp) (l1 : Int32) (N : Nat) (P : Nat → Nat) (E p : Nat), I0 bs m h0 h N P E p → N ≤ 401 → p ≤ m → l1.toInt = (p : Int) → Pc (W_X12_cut n 7 h l1 0 0 0 0 0 0) (CtP bs m h0)) ∧
    (∀ (h : Hp) (l1 l2 l3 : Int32) (l4 : Int64) (N : Nat) (P : Nat → Nat) (E p k : Nat), I0 bs m h0 h N P E p → N ≤ 400 → p < m → l1.toInt = (p : Int) → l3.toInt = (k : Int) → p + k ≤ m → isLt (bs p) → (∀ j, p ≤ j → j < p + k → isLt (bs j)) → (k ≤ 8 → l4.toInt = wnR 27 96 bs p k) → Pc (W_X12_cut n 85 h l1 l2 l3 0 l4 0 0) (CtP bs m h0)) ∧
    (∀ (h : Hp) (l1 l2 l3 l6 l7 : Int32) (l4 : Int64) (N : Nat) (P : Nat → Nat) (E p k j : Nat), I0 bs m h0 h N P E p → N ≤ 400 → p < m → l1.toInt = (p : Int) → l3.toInt = (k : Int) → k ≤ 8 → p + k ≤ m → isLt (bs p) → RunE isLt bs p (p + k) → l4.toInt = wnR 27 96 bs p k → l7.toInt = (j : Int) → j ≤ 22 → ((∃ z : Nat, z < 22 ∧ l6.toInt = 20 + (z : Int) ∧ l4.toInt = kyN z) ∨ (l6.toInt = 1 ∧ ∀ z, z < j → l4.toInt ≠ kyN z)) → Pc (W_X12_cut n 146 h l1 l2 l3 0 l4 l6 l7) (CtP bs m h0)) ∧
    (∀ (h : Hp) (l1 l2 l3 l4 : Int32) (N : Nat) (P : Nat → Nat) (E p k : Nat), I0 bs m h0 h N P E p → N ≤ 400 → p < m → l1.toInt = (p : Int) → l3.toInt = (k : Int) → p + k ≤ m → isDg (bs p) → (∀ j, p ≤ j → j < p + k → isDg (bs j)) → (k ≤ 4 → l4.toInt = wnR 10 48 bs p k) → (4 ≤ k → l4.toInt = wnR 10 48 bs p 4) → Pc (W_X12_cut n 208 h l1 l2 l3 l4 0 0 0) (CtP bs m h0)) := by
  have f0 := lit_0
  have f1 := lit_1
  have f2 := lit_2
  have f3 := lit_3
  have f4 := lit_4
  have f8 := lit_8
  have f9 := lit_9
  have f10 := lit_10
  have f13 := lit_13
  have f20 := lit_20
  have f22 := lit_22
  have f32 := lit_32
  have f48 := lit_48
  have f400 := lit_400
  have b1 := B.1
  intro n
  induction n with
  | zero => exact ⟨fun _ _ _ _ _ _ _ _ _ _ => Pc.no, fun _ _ _ _ _ _ _ _ _ _ _ _ _ _ _ _ _ _ _ => Pc.no, fun _ _ _ _ _ _ _ _ _ _ _ _ _ _ _ _ _ _ _ _ _ _ _ _ _ _ => Pc.no, fun _ _ _ _ _ _ _ _ _ _ _ _ _ _ _ _ _ _ _ _ => Pc.no⟩
  | succ n ih =>
    obtain ⟨ih7, ih85, ih146, ih208⟩ := ih
    refine ⟨fun h l1 N P E p I n4 pm e1 => ?_, fun h l1 l2 l3 l4 N P E p k I n4 pm e1 e3 pk lp lk w => ?_, fun h l1 l2 l3 l6 l7 l4 N P E p k j I n4 pm e1 e3 k8 pk lp rk w e7 j22 ky => ?_, fun h l1 l2 l3 l4 N P E p k I n4 pm e1 e3 pk lp lk w w4 => ?_⟩
    · have I' := I
      obtain ⟨S, Y, fr, kN, T, ep, bl⟩ := I'
      rw [u_X12_cut]
      refine Pc.pos rfl ?_
      refine Pc.lt (fun c1 => Pc.ret ⟨fr, N, P, E, n4, T, Or.inl (by omega)⟩) (fun c1 => ?_)
      refine Pc.bind (pc_byteAt B S) (fun q2 h2 => ?_)
      rw [h2.1]
      have v2 := h2.2 p e1
      have s1 := S.1
      have a1 := adT l1 1 (by omega) (by omega)
      refine Pc.lt (fun c2 => ?_) (fun c2 => ?_)
      · have sk (hb : isBl (bs p)) : Pc (W_X12_cut n 7 h (l1 + 1) 0 0 0 0 0 0) (CtP bs m h0) := by
          refine ih7 h (l1 + 1) N P E (p + 1) ⟨S, Y, fr, kN, T, by omega, fun j x y => ?_⟩ n4 (by omega) (by omega)
          by_cases z : j = p
          · rw [z]; exact hb
          · exact bl j x (by omega)
        refine Pc.eq (fun c3 => sk (by unfold isBl; omega)) (fun c3 => ?_)
        refine Pc.eq (fun c4 => sk (by unfold isBl; omega)) (fun c4 => ?_)
        refine Pc.eq (fun c5 => sk (by unfold isBl; omega)) (fun c5 => ?_)
        refine Pc.eq (fun c6 => sk (by unfold isBl; omega)) (fun c6 => ?_)
        have nb : ¬ isBl (bs p) := by unfold isBl; omega
        refine Pc.bind pr_isLetter (fun q9 h9 => ?_)
        rw [h9.1]
        have v9 := h9.2
        rw [v2] at v9
        refine Pc.eq (fun c7 => ?_) (fun c7 => ?_)
        · have nl : ¬ isLt (bs p) := fun z => v9.mpr z (c7.trans f0)
          refine Pc.bind pr_isDigit (fun q12 h12 => ?_)
          rw [h12.1]
          have v12 := h12.2
          rw [v2] at v12
          refine Pc.eq (fun c8 => ?_) (fun c8 => ?_)
          · have nd : ¬ isDg (bs p) := fun z => v12.mpr z (c8.trans f0)
            refine Pc.bind (pc_byteAt B S) (fun q15 h15 => ?_)
            rw [h15.1]
            refine Pc.bind pr_sign (fun q17 h17 => ?_)
            obtain ⟨r1, kd, r2, kr⟩ := h17
            rw [v2] at r2
            have a2 := adT l1 q17.1 (by omega) (by omega)
            exact ih7 q17.2 (l1 + q17.1) (N + 1) _ (p + 1) (p + 1) (I.add (by omega) nb (Or.inr (Or.inr ⟨nl, nd, rfl⟩)) (Or.inr (Or.inr ⟨nl, nd, r2⟩)) e1 kr (by omega)) (by omega) (by omega) (by omega)
          · exact ih208 h l1 q2.1 0 0 N P E p 0 I (by omega) (by omega) e1 f0 (by omega) (v12.mp (by omega)) (fun j x y => by omega) (fun _ => f0) (fun z => by omega)
        · exact ih85 h l1 q2.1 0 0 N P E p 0 I (by omega) (by omega) e1 f0 (by omega) (v9.mp (by omega)) (fun j x y => by omega) (fun _ => lit0L)
      · have pm' : p = m := by omega
        refine Pc.bind pr_token (fun q19 kr => Pc.ret ?_)
        have nk := ncT (show 0 ≤ (hi h 226 10).toInt by omega)
        have ek : Int32.toNatClampNeg (hi h 226 10) = N := by omega
        have kr' := kr
        obtain ⟨k1, k2, k3, k4, k5, k6, k7⟩ := kr'
        refine ⟨⟨fun a z n1 n2 n3 n5 => (k1 a z n1 n2 n3 n5).trans (fr.1 a z n1 n2 n3 n5), fun a z n1 => (k2 a z n1).trans (fr.2 a z n1)⟩, N, P, E, n4, ⟨T.1, T.2.1, fun t ht => ?_⟩, Or.inr ⟨by omega, ?_, ?_, ?_⟩⟩
        · obtain ⟨d1, e', d2, d3, d4, kd, v, nm, d5, d6⟩ := T.2.2 t ht
          exact ⟨d1, e', d2, d3, d4, kd, v, nm, d5, d6.cg kr (by omega)⟩
        · rw [k4, if_pos ek.symm]; exact f0
        · rw [k5, if_pos ek.symm]; exact s1
        · rw [← pm']
          refine ⟨ep, bl, ?_⟩
          rw [B.2.1 p (by omega)]
          unfold isBl
          omega
    · have I' := I
      obtain ⟨S, Y, fr, kN, T, ep, bl⟩ := I'
      have a13 := adT l1 l3 (by omega) (by omega)
      have a31 := adT l3 1 (by omega) (by omega)
      have nb := bl_no (Or.inl lp)
      rw [u_X12_cut]
      refine Pc.neg (by decide) (Pc.pos rfl ?_)
      refine Pc.bind (pc_byteAt B S) (fun q21 h21 => ?_)
      rw [h21.1]
      have v21 := h21.2 (p + k) (by omega)
      refine Pc.bind pr_isLetter (fun q23 h23 => ?_)
      rw [h23.1]
      have v23 := h23.2
      rw [v21] at v23
      refine Pc.eq (fun c1 => ?_) (fun c1 => ?_)
      · have nl : ¬ isLt (bs (p + k)) := fun z => v23.mpr z (c1.trans f0)
        have rk : RunE isLt bs p (p + k) := ⟨by omega, lk, nl⟩
        refine Pc.le (fun c2 => ?_) (fun c2 => ?_)
        · refine Pc.lt (fun c3 => by exfalso; omega) (fun c3 => ?_)
          exact ih146 h l1 l2 l3 1 0 l4 N P E p k 0 I n4 pm e1 e3 (by omega) pk lp rk (w (by omega)) f0 (by omega) (Or.inr ⟨f1, fun z hz => by omega⟩)
        · refine Pc.lt (fun c3 => ?_) (fun c3 => by exfalso; omega)
          refine Pc.bind pr_token (fun q31 kr => ?_)
          exact ih7 q31 (l1 + l3) (N + 1) _ (p + k) (p + k) (I.add pm nb (Or.inl ⟨lp, rk⟩) (Or.inl ⟨lp, Or.inl ⟨by omega, f3⟩⟩) e1 kr n4) (by omega) (by omega) (by omega)
      · have yl : isLt (bs (p + k)) := v23.mp (by omega)
        have km : p + k < m := by
          by_cases z : p + k < m
          · exact z
          · exfalso
            rw [B.2.1 (p + k) (by omega)] at yl
            exact lt0 yl
        have lk' (j : Nat) (x : p ≤ j) (y : j < p + (k + 1)) : isLt (bs j) := by
          by_cases z : j = p + k
          · rw [z]; exact yl
          · exact lk j x (by omega)
        refine Pc.le (fun c2 => ?_) (fun c2 => ?_)
        · exact ih85 h l1 l2 (l3 + 1) l4 N P E p (k + 1) I n4 pm e1 (by omega) (by omega) lp lk' (fun z => by omega)
        · refine Pc.bind (pc_byteAt B S) (fun q34 h34 => ?_)
          rw [h34.1]
          refine Pc.bind (wn_ap (by omega) lk (w (by omega)) (h34.2 (p + k) (by omega)) yl) (fun q36 h36 => ?_)
          rw [h36.1]
          exact ih85 h l1 l2 (l3 + 1) q36.1 N P E p (k + 1) I n4 pm e1 (by omega) (by omega) lp lk' (fun _ => h36.2)
    · have I' := I
      obtain ⟨S, Y, fr, kN, T, ep, bl⟩ := I'
      have a13 := adT l1 l3 (by omega) (by omega)
      have a71 := adT l7 1 (by omega) (by omega)
      have a20 := adT 20 l7 (by omega) (by omega)
      have nb := bl_no (Or.inl lp)
      rw [u_X12_cut]
      refine Pc.neg (by decide) (Pc.neg (by decide) (Pc.pos rfl ?_))
      refine Pc.le (fun c1 => ?_) (fun c1 => ?_)
      · refine Pc.bind pr_token (fun q39 kr => ?_)
        have rl : RLk (wnR 27 96 bs p (p + k - p)) l6.toInt := by
          rw [show p + k - p = k by omega, ← w]
          rcases ky with ⟨z, z1, z2, z3⟩ | ⟨z1, z2⟩
          · exact Or.inl ⟨z, z1, z2, z3⟩
          · exact Or.inr ⟨z1, fun y hy => z2 y (by omega)⟩
        exact ih7 q39 (l1 + l3) (N + 1) _ (p + k) (p + k) (I.add pm nb (Or.inl ⟨lp, rk⟩) (Or.inl ⟨lp, Or.inr ⟨by omega, rl, by rw [show p + k - p = k by omega]; exact w⟩⟩) e1 kr n4) (by omega) (by omega) (by omega)
      · refine Pc.chk (fun c2 => ?_)
        have n1 := ncT (show 0 ≤ l7.toInt by omega)
        have n2 : Int32.toNatClampNeg l7 = j := by omega
        rw [n2]
        have lz := lgz (hl h 233 j) l4
        rw [Y j (by omega)] at lz
        refine Pc.eq (fun c3 => ?_) (fun c3 => ?_)
        · exact ih146 h l1 l2 l3 (20 + l7) (l7 + 1) l4 N P E p k (j + 1) I n4 pm e1 e3 k8 pk lp rk w (by omega) (by omega) (Or.inl ⟨j, by omega, by omega, (lz.mp (c3.trans f0)).symm⟩)
        · refine ih146 h l1 l2 l3 l6 (l7 + 1) l4 N P E p k (j + 1) I n4 pm e1 e3 k8 pk lp rk w (by omega) (by omega) ?_
          rcases ky with y | ⟨z1, z2⟩
          · exact Or.inl y
          · refine Or.inr ⟨z1, fun y hy => ?_⟩
            by_cases x : y = j
            · rw [x]
              exact fun u => c3 ((lz.mpr u.symm).trans f0.symm)
            · exact z2 y (by omega)
    · have I' := I
      obtain ⟨S, Y, fr, kN, T, ep, bl⟩ := I'
      have a13 := adT l1 l3 (by omega) (by omega)
      have a31 := adT l3 1 (by omega) (by omega)
      have nb := bl_no (Or.inr lp)
      rw [u_X12_cut]
      refine Pc.neg (by decide) (Pc.neg (by decide) (Pc.neg (by decide) (Pc.pos rfl ?_)))
      refine Pc.bind (pc_byteAt B S) (fun q43 h43 => ?_)
      rw [h43.1]
      have v43 := h43.2 (p + k) (by omega)
      refine Pc.bind pr_isDigit (fun q45 h45 => ?_)
      rw [h45.1]
      have v45 := h45.2
      rw [v43] at v45
      refine Pc.eq (fun c1 => ?_) (fun c1 => ?_)
      · have nl : ¬ isDg (bs (p + k)) := fun z => v45.mpr z (c1.trans f0)
        have rk : RunE isDg bs p (p + k) := ⟨by omega, lk, nl⟩
        refine Pc.le (fun c2 => ?_) (fun c2 => ?_)
        · refine Pc.bind pr_token (fun q49 kr => ?_)
          exact ih7 q49 (l1 + l3) (N + 1) _ (p + k) (p + k) (I.add pm nb (Or.inr (Or.inl ⟨lp, rk⟩)) (Or.inr (Or.inl ⟨lp, Or.inr ⟨by omega, f2, by rw [show p + k - p = k by omega]; exact w (by omega)⟩⟩)) e1 kr n4) (by omega) (by omega) (by omega)
        · refine Pc.bind pr_token (fun q51 kr => ?_)
          exact ih7 q51 (l1 + l3) (N + 1) _ (p + k) (p + k) (I.add pm nb (Or.inr (Or.inl ⟨lp, rk⟩)) (Or.inr (Or.inl ⟨lp, Or.inl ⟨by omega, f3⟩⟩)) e1 kr n4) (by omega) (by omega) (by omega)
      · have yl : isDg (bs (p + k)) := v45.mp (by omega)
        have km : p + k < m := by
          by_cases z : p + k < m
          · exact z
          · exfalso
            rw [B.2.1 (p + k) (by omega)] at yl
            exact dg0 yl
        have lk' (j : Nat) (x : p ≤ j) (y : j < p + (k + 1)) : isDg (bs j) := by
          by_cases z : j = p + k
          · rw [z]; exact yl
          · exact lk j x (by omega)
        refine Pc.le (fun c2 => ?_) (fun c2 => ?_)
        · exact ih208 h l1 l2 (l3 + 1) l4 N P E p (k + 1) I n4 pm e1 (by omega) (by omega) lp lk' (fun z => by omega) (fun _ => w4 (by omega))
        · refine Pc.bind (pc_byteAt B S) (fun q54 h54 => ?_)
          rw [h54.1]
          have v54 := h54.2 (p + k) (by omega)
          have w' := w (by omega)
          have wb := wn_10 (bs := bs) (i := p) (k := k) (by omega) lk
          have dd := yl
          unfold isDg at dd
          have s1 := mlT 10 l4 10 lit_10 (by omega) (by omega)
          have s2 := adT (10 * l4) q54.1 (by omega) (by omega)
          have s3 := sbT (10 * l4 + q54.1) 48 (by omega) (by omega)
          have wn : (10 * l4 + q54.1 - 48).toInt = wnR 10 48 bs p (k + 1) := by
            show _ = 10 * wnR 10 48 bs p k + (bs (p + k) - 48)
            omega
          exact ih208 h l1 l2 (l3 + 1) _ N P E p (k + 1) I n4 pm e1 (by omega) (by omega) lp lk' (fun _ => wn) (fun z => by rw [wn, show k + 1 = 4 by omega])
theorem pr_cut (B : BS bs m) {n : Nat} {h : Hp} (S : SR bs m h) (Y : KY h) : Pc (F_X12_cut n h) (CtP bs m h) := by
  have f0 := lit_0
  unfold F_X12_cut
  generalize eg : wrI h 226 10 0 = g
  have fr : frR h g := ⟨fun a k n1 n2 n3 n4 => by rw [← eg, hi_wrI, if_neg n4], fun a k _ => by rw [← eg]; rfl⟩
  have g10 : hi g 226 10 = 0 := hiE eg
  refine (pr_cutL (h0 := h) B n).1 g 0 0 (fun _ => 0) 0 0 ⟨⟨by rw [fr.1 226 4 (by decide) (by decide) (by decide) (by decide)]; exact S.1, fun i il => by rw [fr.1 228 i (by decide) (by decide) (by decide) (by omega)]; exact S.2 i il⟩, fun k hk => by rw [fr.2 233 k (by decide)]; exact Y k hk, fr, by rw [g10]; exact f0, ⟨fun _ => rfl, fun z => by omega, fun t ht => by omega⟩, Nat.le_refl 0, fun j x y => by omega⟩ (by omega) (by omega) f0
end RY
end
section
/-! TOKENS of both are alike -/
def vdL : List Int := [0, 1, 2, 3, 4, 5, 6, 7, 8, 9, 10, 11, 12, 13, 14, 15, 16, 17, 18, 19, 20, 21, 30, 31, 32, 33, 40, 41, 42, 43, 45, 47, 59, 60, 61]
/-- a kind of the class's as the reference numbers it -/
def rk (k : Int) : Int := if k < 9 then 33 + k else if k < 22 then 11 + k else if k = 30 then 2 else if k = 31 then 1 else if k = 32 then 0 else if k = 33 then 3 else sgK k
theorem rk_inj : ∀ k ∈ vdL, ∀ j ∈ vdL, rk k = rk j → k = j := by decide
theorem rk_not : ∀ k ∈ vdL, rk k ≤ 41 ∧ 0 ≤ rk k := by decide
def kb (j : Nat) : Nat → Int := fun x => (kyW.getD j []).getD x 0
def kn (j : Nat) : Nat := (kyW.getD j []).length
def rot (k : Nat) : Nat := if k < 9 then 13 + k else k - 9
def tor (j : Nat) : Nat := if j < 13 then j + 9 else j - 13
theorem ky_wn : ∀ j, j < 22 → kyN j = wnR 27 96 (kb j) 0 (kn j) := by decide
theorem wd_wn : ∀ j, j < 22 → wdN32 (tor j) = wnR 32 96 (kb j) 0 (kn j) := by decide
theorem kb_lt : ∀ j, j < 22 → ∀ x, x < kn j → 97 ≤ kb j (0 + x) ∧ kb j (0 + x) ≤ 122 := by decide
theorem ky_in : ∀ j, j < 22 → ∀ j', j' < 22 → kyN j = kyN j' → j = j' := by decide
theorem rot_in : ∀ k, k < 22 → rot k < 22 ∧ tor (rot k) = k ∧ rk (k : Int) = 20 + (rot k : Int) := by decide
theorem tor_in : ∀ j, j < 22 → tor j < 22 := by decide
section TT
variable {bs : Nat → Int} {m : Nat}
theorem kl_rl {i k : Nat} (hl : ∀ j, j < k → isLt (bs (i + j))) {kd r : Int} (a : KL (wnR 32 96 bs i k) kd) (b : RLk (wnR 27 96 bs i k) r) : r = rk kd ∧ ((0 ≤ kd ∧ kd < 22) ∨ kd = 31) := by
  have up (j : Nat) (hj : j < 22) (e : wnR 32 96 bs i k = wdN32 (tor j)) : wnR 27 96 bs i k = kyN j := by
    rw [wd_wn j hj] at e
    rw [ky_wn j hj]
    exact wn_inj (by decide) k (kn j) hl (fun x hx => kb_lt j hj x hx) e
  have dn (j : Nat) (hj : j < 22) (e : wnR 27 96 bs i k = kyN j) : wnR 32 96 bs i k = wdN32 (tor j) := by
    rw [ky_wn j hj] at e
    rw [wd_wn j hj]
    exact wn_inj (by decide) k (kn j) hl (fun x hx => kb_lt j hj x hx) e
  rcases a with ⟨z, z1, z2, z3, -⟩ | ⟨z1, z2⟩
  · obtain ⟨r1, r2, r3⟩ := rot_in z z1
    have u := up (rot z) r1 (by rw [r2]; exact z3)
    refine ⟨?_, Or.inl (by omega)⟩
    rcases b with ⟨y, y1, y2, y3⟩ | ⟨y1, y2⟩
    · have := ky_in y y1 (rot z) r1 (y3.symm.trans u)
      rw [z2, r3, y2, this]
    · exact absurd u (y2 (rot z) r1)
  · refine ⟨?_, Or.inr z1⟩
    rcases b with ⟨y, y1, y2, y3⟩ | ⟨y1, y2⟩
    · exact absurd (dn y y1 y3) (z2 (tor y) (tor_in y y1))
    · rw [z1, y1]
      decide
theorem TkE.uniq {i e e' : Nat} (a : TkE bs i e) (b : TkE bs i e') : e = e' := by
  rcases a with ⟨a1, a2⟩ | ⟨a1, a2⟩ | ⟨a1, a2, a3⟩ <;> rcases b with ⟨b1, b2⟩ | ⟨b1, b2⟩ | ⟨b1, b2, b3⟩
  · exact a2.uniq b2
  · exact absurd b1 (lt_dg a1)
  · exact absurd a1 b1
  · exact absurd a1 (lt_dg b1)
  · exact a2.uniq b2
  · exact absurd a1 b2
  · exact absurd b1 a1
  · exact absurd b1 a2
  · rw [a3, b3]
/-- what is alike of one TOKEN -/
def TkB (bs : Nat → Int) (i e : Nat) (kd v kd' v' nm : Int) : Prop := kd' = rk kd ∧ kd ∈ vdL ∧ kd ≠ 32 ∧ (kd = 30 → v = v' ∧ 0 ≤ v ∧ v ≤ 9999) ∧ (kd = 31 → e ≤ i + 8 ∧ (∀ j, j < e - i → isLt (bs (i + j))) ∧ v = wnR 32 96 bs i (e - i) ∧ nm = wnR 27 96 bs i (e - i))
theorem vd_w {k : Int} (h1 : 0 ≤ k) (h2 : k < 22) : k ∈ vdL := by
  have : ∀ z : Nat, z < 22 → (z : Int) ∈ vdL := by decide
  have e : k = ((k.toNat : Nat) : Int) := by omega
  rw [e]
  exact this k.toNat (by omega)
theorem sg_v {k : Int} (h : isSg k) : k ∈ vdL ∧ rk k = sgK k ∧ k ≠ 30 ∧ k ≠ 31 ∧ k ≠ 32 := by
  unfold isSg at h
  rcases h with rfl | rfl | rfl | rfl | rfl | rfl | rfl | rfl | rfl <;> decide
theorem tk_both {i e : Nat} {kd v kd' v' nm : Int} (te : TkE bs i e) (a : TkC bs i e kd v) (b : TkR bs i e kd' v' nm) : TkB bs i e kd v kd' v' nm := by
  have d33 : (33 : Int) ∈ vdL := by decide
  have d30 : (30 : Int) ∈ vdL := by decide
  have d31 : (31 : Int) ∈ vdL := by decide
  have r33 : rk 33 = 3 := by decide
  have r30 : rk 30 = 2 := by decide
  rcases a with ⟨a1, a2⟩ | ⟨a1, a2⟩ | ⟨a1, a2⟩ | ⟨a1, a2, a3, a4⟩
  · have b' : (i + 8 < e ∧ kd' = 3) ∨ (e ≤ i + 8 ∧ RLk (wnR 27 96 bs i (e - i)) kd' ∧ nm = wnR 27 96 bs i (e - i)) := by
      rcases b with ⟨-, b2⟩ | ⟨b1, -⟩ | ⟨b1, -, -⟩
      · exact b2
      · exact absurd b1 (lt_dg a1)
      · exact absurd a1 b1
    have rn : RunE isLt bs i e := by
      rcases te with ⟨-, t2⟩ | ⟨t1, -⟩ | ⟨t1, -, -⟩
      · exact t2
      · exact absurd t1 (lt_dg a1)
      · exact absurd a1 t1
    rcases a2 with ⟨x1, x2⟩ | ⟨x1, x2, x3⟩
    · rcases b' with ⟨y1, y2⟩ | ⟨y1, -, -⟩
      · exact ⟨by rw [x2, y2, r33], by rw [x2]; exact d33, by omega, fun z => by omega, fun z => by omega⟩
      · omega
    · rcases b' with ⟨y1, -⟩ | ⟨y1, y2, y3⟩
      · omega
      · have hl (j : Nat) (hj : j < e - i) : isLt (bs (i + j)) := rn.2.1 (i + j) (by omega) (by omega)
        obtain ⟨z1, z2⟩ := kl_rl hl x2 y2
        refine ⟨z1, ?_, by omega, fun z => by omega, fun _ => ⟨x1, hl, x3, y3⟩⟩
        rcases z2 with z2 | z2
        · exact vd_w z2.1 z2.2
        · rw [z2]; exact d31
  · have b' : (i + 4 < e ∧ kd' = 3) ∨ (e ≤ i + 4 ∧ kd' = 2 ∧ v' = wnR 10 48 bs i (e - i)) := by
      rcases b with ⟨b1, -⟩ | ⟨-, b2⟩ | ⟨-, b1, -⟩
      · exact absurd a1 (lt_dg b1)
      · exact b2
      · exact absurd a1 b1
    have rn : RunE isDg bs i e := by
      rcases te with ⟨t1, -⟩ | ⟨-, t2⟩ | ⟨-, t1, -⟩
      · exact absurd a1 (lt_dg t1)
      · exact t2
      · exact absurd a1 t1
    rcases a2 with ⟨x1, x2⟩ | ⟨x1, x2, x3⟩
    · rcases b' with ⟨y1, y2⟩ | ⟨y1, -, -⟩
      · exact ⟨by rw [x2, y2, r33], by rw [x2]; exact d33, by omega, fun z => by omega, fun z => by omega⟩
      · omega
    · rcases b' with ⟨y1, -⟩ | ⟨y1, y2, y3⟩
      · omega
      · have wb := wn_10 (bs := bs) (i := i) (k := e - i) (by omega) (fun j p q => rn.2.1 j p (by omega))
        exact ⟨by rw [x2, y2, r30], by rw [x2]; exact d30, by omega, fun _ => ⟨by rw [x3, y3], by omega, by omega⟩, fun z => by omega⟩
  · obtain ⟨s1, s2, s3, s4, s5⟩ := sg_v a1
    have nl : ¬ isLt (bs i) := by unfold isSg at a1; unfold isLt; omega
    have nd : ¬ isDg (bs i) := by unfold isSg at a1; unfold isDg; omega
    rcases b with ⟨b1, -⟩ | ⟨b1, -⟩ | ⟨-, -, b3⟩
    · exact absurd b1 nl
    · exact absurd b1 nd
    · rw [a2]
      exact ⟨by rw [b3, s2], s1, s5, fun z => absurd z s3, fun z => absurd z s4⟩
  · rcases b with ⟨b1, -⟩ | ⟨b1, -⟩ | ⟨-, -, b3⟩
    · exact absurd b1 a1
    · exact absurd b1 a2
    · have : sgK (bs i) = 3 := by
        unfold isSg at a3
        unfold sgK
        rw [if_neg (by omega), if_neg (by omega), if_neg (by omega), if_neg (by omega), if_neg (by omega), if_neg (by omega), if_neg (by omega), if_neg (by omega), if_neg (by omega)]
      exact ⟨by rw [b3, a4, this, r33], by rw [a4]; exact d33, by omega, fun z => by omega, fun z => by omega⟩
theorem run_ex (B : BS bs m) : ∀ d E : Nat, m ≤ E + d → ∃ p, RunE isBl bs E p := by
  intro d
  induction d with
  | zero =>
    intro E h
    exact ⟨E, RunE.stop (by rw [B.2.1 E (by omega)]; unfold isBl; omega)⟩
  | succ d ih =>
    intro E h
    by_cases z : isBl (bs E)
    · obtain ⟨p, r⟩ := ih (E + 1) (by omega)
      exact ⟨p, r.step z⟩
    · exact ⟨E, RunE.stop z⟩
/-- where TOKENS begin -/
def RN (bs : Nat → Int) (N : Nat) (P : Nat → Nat) : Prop := RunE isBl bs 0 (P 0) ∧ ∀ t, t < N → ∃ e, TkE bs (P t) e ∧ RunE isBl bs e (P (t + 1))
theorem RN.eq {N N' : Nat} {P P' : Nat → Nat} (a : RN bs N P) (b : RN bs N' P') : ∀ t, t ≤ N → t ≤ N' → P t = P' t := by
  intro t
  induction t with
  | zero => intro _ _; exact a.1.uniq b.1
  | succ t ih =>
    intro h1 h2
    have e := ih (by omega) (by omega)
    obtain ⟨x, x1, x2⟩ := a.2 t (by omega)
    obtain ⟨y, y1, y2⟩ := b.2 t (by omega)
    rw [e] at x1
    rw [x1.uniq y1] at x2
    exact x2.uniq y2
/-- the TOKENS of both, N of them -/
def TQ (bs : Nat → Int) (m : Nat) (hc hr : Hp) (N : Nat) : Prop := N ≤ 401 ∧ (hi hc 18 5).toInt = (N : Int) ∧ (hi hc 18 6).toInt = (m : Int) ∧ (N ≤ 400 → (hi hr 229 N).toInt = 0 ∧ (hi hr 230 N).toInt = (m : Int)) ∧ ∃ P : Nat → Nat, RN bs N P ∧ ∀ t, t < N → P t < m ∧ ∃ e kd v v' nm, TkE bs (P t) e ∧ enC hc t (P t) kd v ∧ enR hr t (P t) (rk kd) v' nm ∧ TkB bs (P t) e kd v (rk kd) v' nm
theorem tok_both (B : BS bs m) {h0 hc g0 hr : Hp} (a : ScP bs m h0 hc) (b : CtP bs m g0 hr) : ∃ N, TQ bs m hc hr N := by
  obtain ⟨-, a1, N, P, a2, a3, a4, a5⟩ := a
  obtain ⟨-, N', P', E, b1, b2, b3⟩ := b
  have ra : RN bs N P := ⟨a4.1, fun t ht => by
    obtain ⟨-, e, x, y, -⟩ := a4.2 t ht
    exact ⟨e, x, y⟩⟩
  obtain ⟨p, hp⟩ := run_ex B m E (by omega)
  have rb : RN bs N' (updP P' N' p) := by
    refine ⟨?_, fun t ht => ?_⟩
    · by_cases z : 0 < N'
      · rw [updP_ne (by omega)]; exact b2.2.1 z
      · have z0 : N' = 0 := by omega
        rw [z0, updP_eq]
        rw [b2.1 z0] at hp
        exact hp
    · obtain ⟨-, e, x1, x2, x3, -⟩ := b2.2.2 t ht
      rw [updP_ne (t := t) (by omega)]
      refine ⟨e, x1, ?_⟩
      by_cases z : t + 1 < N'
      · rw [updP_ne (by omega)]; exact x3 z
      · have z1 : t + 1 = N' := by omega
        rw [z1, updP_eq, ← x2 z1]; exact hp
  have eq := ra.eq rb
  have nn : N = N' := by
    rcases Nat.lt_trichotomy N N' with z | z | z
    · exfalso
      have e := eq N (Nat.le_refl N) (by omega)
      rw [updP_ne (by omega)] at e
      have l := (b2.2.2 N z).1
      rcases a5 with q | q
      · omega
      · omega
    · exact z
    · exfalso
      have e := eq N' (by omega) (Nat.le_refl N')
      rw [updP_eq] at e
      have l := (a4.2 N' z).1
      rcases b3 with q | ⟨-, -, -, q⟩
      · omega
      · have := hp.uniq q
        omega
  subst nn
  refine ⟨N, a3, a2, a1, fun z => ?_, P, ra, fun t ht => ?_⟩
  · rcases b3 with q | ⟨-, q1, q2, -⟩
    · omega
    · exact ⟨q1, q2⟩
  · obtain ⟨x1, e, x2, x3, kd, v, x4, x5⟩ := a4.2 t ht
    obtain ⟨y1, e', y2, -, -, kd', v', nm, y5, y6⟩ := b2.2.2 t ht
    have ep := eq t (by omega) (by omega)
    rw [updP_ne (by omega)] at ep
    rw [← ep] at y2 y5 y6
    rw [← x2.uniq y2] at y5
    have tb := tk_both x2 x4 y5
    rw [tb.1] at y6
    exact ⟨x1, e, kd, v, v', nm, x2, x5, y6, by have := tb; rw [tb.1] at this; exact this⟩
end TT
end
