/-! READING: from the tape to the text, TOKENS, a plain side -/
theorem rd_w6 (q2 : Hp) (v : Int32) : hi (wrI (wrI (wrI (wrI (wrI (wrI q2 226 11 0) 226 12 0) 226 13 0) 226 15 0) 226 19 v) 226 20 0) 226 11 = 0 ∧ hi (wrI (wrI (wrI (wrI (wrI (wrI q2 226 11 0) 226 12 0) 226 13 0) 226 15 0) 226 19 v) 226 20 0) 226 12 = 0 ∧ hi (wrI (wrI (wrI (wrI (wrI (wrI q2 226 11 0) 226 12 0) 226 13 0) 226 15 0) 226 19 v) 226 20 0) 226 13 = 0 ∧ hi (wrI (wrI (wrI (wrI (wrI (wrI q2 226 11 0) 226 12 0) 226 13 0) 226 15 0) 226 19 v) 226 20 0) 226 15 = 0 ∧ hi (wrI (wrI (wrI (wrI (wrI (wrI q2 226 11 0) 226 12 0) 226 13 0) 226 15 0) 226 19 v) 226 20 0) 226 19 = v ∧ hi (wrI (wrI (wrI (wrI (wrI (wrI q2 226 11 0) 226 12 0) 226 13 0) 226 15 0) 226 19 v) 226 20 0) 226 20 = 0 := by
  refine ⟨?_, ?_, ?_, ?_, ?_, ?_⟩
  · rw [hi_wrI, if_neg (by omega), hi_wrI, if_neg (by omega), hi_wrI, if_neg (by omega), hi_wrI, if_neg (by omega), hi_wrI, if_neg (by omega), hi_wrI, if_pos ⟨rfl, rfl⟩]
  · rw [hi_wrI, if_neg (by omega), hi_wrI, if_neg (by omega), hi_wrI, if_neg (by omega), hi_wrI, if_neg (by omega), hi_wrI, if_pos ⟨rfl, rfl⟩]
  · rw [hi_wrI, if_neg (by omega), hi_wrI, if_neg (by omega), hi_wrI, if_neg (by omega), hi_wrI, if_pos ⟨rfl, rfl⟩]
  · rw [hi_wrI, if_neg (by omega), hi_wrI, if_neg (by omega), hi_wrI, if_pos ⟨rfl, rfl⟩]
  · rw [hi_wrI, if_neg (by omega), hi_wrI, if_pos ⟨rfl, rfl⟩]
  · rw [hi_wrI, if_pos ⟨rfl, rfl⟩]
theorem rd_w6n (q2 : Hp) (v : Int32) (a k : Nat) (n : ¬ (a = 226 ∧ (k = 11 ∨ k = 12 ∨ k = 13 ∨ k = 15 ∨ k = 19 ∨ k = 20))) : hi (wrI (wrI (wrI (wrI (wrI (wrI q2 226 11 0) 226 12 0) 226 13 0) 226 15 0) 226 19 v) 226 20 0) a k = hi q2 a k := by
  rw [hi_wrI, if_neg (by omega), hi_wrI, if_neg (by omega), hi_wrI, if_neg (by omega), hi_wrI, if_neg (by omega), hi_wrI, if_neg (by omega), hi_wrI, if_neg (by omega)]
theorem lit_130 : (130 : Int32).toInt = 130 := by decide
theorem lit_420 : (420 : Int32).toInt = 420 := by decide
section RS
variable {hS : Hp}
/-- the heap behind TOKENS and a plain side: what telling begins with -/
theorem rd_begin {s : Nat} (hs : s ≤ 1) {gC q2 g6 q4 : Hp} (c0 : ∀ a k, a ≠ 228 → ¬ (a = 226 ∧ (k = 2 ∨ k = 4)) → hi gC a k = hi hS a k) (cl : ∀ a k, hl gC a k = hl hS a k) (ct : (hi gC 226 2).toInt = 0) (jc : jC gC q2) {v : Int32} (hv : v.toInt = (s : Int)) (e6 : wrI (wrI (wrI (wrI (wrI (wrI q2 226 11 0) 226 12 0) 226 13 0) 226 15 0) 226 19 v) 226 20 0 = g6) (pl : plQ s g6 q4 4) {b c : Int32} (hb : b.toInt = 130 * s) (hc : c.toInt = 420 * s) {hC : Hp} (eC : wrI (wrI q4 226 39 b) 226 45 c = hC) : jR s hC hC ∧ rdC s hS hC := by
  have f0 := lit_0
  obtain ⟨w1, w2, w3, w4, w5, w6⟩ := rd_w6 q2 v
  rw [e6] at w1 w2 w3 w4 w5 w6
  have wn (a k : Nat) (n : ¬ (a = 226 ∧ (k = 11 ∨ k = 12 ∨ k = 13 ∨ k = 15 ∨ k = 19 ∨ k = 20))) : hi g6 a k = hi q2 a k := by
    rw [← e6]; exact rd_w6n q2 v a k n
  obtain ⟨⟨⟨p1, p2⟩, p3, p4, p5, p6, p7⟩, p8⟩ := pl
  have rC (a k : Nat) (n : ¬ (a = 226 ∧ (k = 39 ∨ k = 45))) : hi hC a k = hi q4 a k := by
    rw [← eC, hi_wrI, if_neg (by omega), hi_wrI, if_neg (by omega)]
  have e45 : hi hC 226 45 = c := by rw [← eC, hi_wrI, if_pos ⟨rfl, rfl⟩]
  have e39 : hi hC 226 39 = b := by rw [← eC, hi_wrI, if_neg (by decide), hi_wrI, if_pos ⟨rfl, rfl⟩]
  have rf (k : Nat) (n : ¬ (k = 39 ∨ k = 45)) : hi hC 226 k = hi g6 226 k := by
    rw [rC 226 k (by omega)]; exact p1 226 k (by unfold plW; omega)
  have i2 : (hi hC 226 2).toInt = 0 := by
    rw [rf 2 (by decide), wn 226 2 (by decide), jc.1 226 2 (by decide) (by decide) (by decide) (by decide)]
    exact ct
  have i11 : (hi hC 226 11).toInt = 0 := by rw [rf 11 (by decide), w1]; exact f0
  have i12 : (hi hC 226 12).toInt = 0 := by rw [rf 12 (by decide), w2]; exact f0
  have i13 : (hi hC 226 13).toInt = 0 := by rw [rf 13 (by decide), w3]; exact f0
  have i15 : (hi hC 226 15).toInt = 0 := by rw [rf 15 (by decide), w4]; exact f0
  have i19 : (hi hC 226 19).toInt = (s : Int) := by rw [rf 19 (by decide), w5]; exact hv
  have i20 : (hi hC 226 20).toInt = 0 := by rw [rf 20 (by decide), w6]; exact f0
  have i45 : (hi hC 226 45).toInt = 420 * s := by rw [e45]; exact hc
  have i39 : (hi hC 226 39).toInt = 130 * s := by rw [e39]; exact hb
  have i235 : (hi hC 235 s).toInt = 4 := by rw [rC 235 s (by omega)]; exact p3
  have i236 : (hi hC 236 s).toInt = 4 := by rw [rC 236 s (by omega)]; exact p4
  have i237 : (hi hC 237 s).toInt = 0 := by rw [rC 237 s (by omega)]; exact p5
  have i242 : (hi hC 242 s).toInt = 0 := by rw [rC 242 s (by omega)]; exact p6
  have i245 : (hi hC 245 s).toInt = 0 := by rw [rC 245 s (by omega)]; exact p7
  refine ⟨⟨⟨⟨fun _ _ _ => rfl, fun _ _ _ => rfl⟩, ⟨i2, i19⟩, ?_, ?_, by omega, by omega⟩, fun _ => ⟨i12, by omega, by omega, by omega, fun _ => ?_, fun i h1 h2 => ?_⟩⟩, fun a k n q => ?_, fun a k n => ?_, fun k => ?_⟩
  · unfold tI; omega
  · unfold cnB; omega
  · refine ⟨by omega, by omega, fun k hk => by omega, fun k hk => by omega, fun k hk => by omega⟩
  · refine Or.inl ?_
    rw [rC 250 i (by omega), rC 251 i (by omega)]
    have := p8 (i - 4 * s) (by omega)
    rw [show 4 * s + (i - 4 * s) = i by omega] at this
    exact this
  · have q' := q
    unfold frB at q'
    rw [rC a k (by omega), p1 a k (by unfold plW; omega), wn a k (by omega), jc.1 a k (by omega) (by omega) (by omega) (by omega)]
    exact c0 a k (by omega) (by omega)
  · rw [← eC]
    show hl q4 a k = _
    rw [p2 a k, ← e6]
    show hl q2 a k = _
    rw [jc.2.1 a k (by omega)]
    exact cl a k
  · rw [rC 229 k (by omega), p1 229 k (by unfold plW; omega), wn 229 k (by omega)]
    exact jc.2.2 k
set_option maxHeartbeats 4000000 in
theorem rd_10 (d : dI hS) (kd : ∀ k, 0 ≤ (hi hS 229 k).toInt) {g0 : Hp} (e0 : wrI hS 226 4 (hi hS 226 2) = g0) : ∀ n : Nat, ∀ (h : Hp) (l1 : Int32), 0 ≤ l1.toInt → l1.toInt ≤ 2000 → (∀ a k, a ≠ 228 → hi h a k = hi g0 a k) → (∀ a k, hl h a k = hl g0 a k) → (68719500000 : Int) + (2001 - l1.toInt) < n → Ok (W_X12_read n 10 h l1) (rdP hS) := by
  intro n
  induction n with
  | zero => intro h l1 a a' b c e; exfalso; omega
  | succ n ih =>
    intro h l1 a a' b c e
    have f0 := lit_0
    have f1 := lit_1
    have tp := d.2.1
    have e4 : hi h 226 4 = hi hS 226 2 := (b 226 4 (by decide)).trans (hiE e0)
    rw [u_X12_read]
    refine Ok.pos rfl ?_
    rw [e4]
    refine Ok.le (fun c1 => ?_) (fun c1 => ?_)
    · generalize eC : wrI h 226 2 0 = gC
      have rC (x k : Nat) (n0 : x ≠ 228) (n1 : ¬ (x = 226 ∧ (k = 2 ∨ k = 4))) : hi gC x k = hi hS x k := by
        rw [← eC, hi_wrI, if_neg (by omega), b x k n0, ← e0, hi_wrI, if_neg (by omega)]
      have lC (x k : Nat) : hl gC x k = hl hS x k := by
        rw [← eC]
        show hl h x k = _
        rw [c x k, ← e0]
        rfl
      have z4 : hi gC 226 4 = hi hS 226 2 := (hiK eC 226 4 (by decide)).trans e4
      have z2 : (hi gC 226 2).toInt = 0 := by rw [hiE eC]; exact f0
      refine Ok.bind (sf_X12_cut (h0 := gC) (by rw [z4]; exact tp) n gC (by omega) ⟨fun _ _ _ _ _ _ => rfl, fun _ _ _ => rfl, fun k => by rw [rC 229 k (by decide) (by omega)]; exact kd k⟩) (fun q2 hq2 => ?_)
      obtain ⟨jc, -⟩ := hq2
      have e18 : hi (wrI (wrI (wrI (wrI q2 226 11 0) 226 12 0) 226 13 0) 226 15 0) 226 18 = hi hS 226 18 := by
        rw [hi_wrI, if_neg (by decide), hi_wrI, if_neg (by decide), hi_wrI, if_neg (by decide), hi_wrI, if_neg (by decide), jc.1 226 18 (by decide) (by decide) (by decide) (by decide)]
        exact rC 226 18 (by decide) (by decide)
      rw [e18]
      have l01 := d.1.1
      generalize ev : (1 - hi hS 226 18 : Int32) = v
      have fv := sbG ev lit_1 rfl (by omega) (by omega)
      obtain ⟨s, hs⟩ : ∃ s : Nat, v.toInt = (s : Int) := ⟨v.toInt.toNat, by omega⟩
      have hs1 : s ≤ 1 := by omega
      generalize e6 : wrI (wrI (wrI (wrI (wrI (wrI q2 226 11 0) 226 12 0) 226 13 0) 226 15 0) 226 19 v) 226 20 0 = g6
      have w19 : hi g6 226 19 = v := by rw [← e6]; exact (rd_w6 q2 v).2.2.2.2.1
      rw [w19]
      refine Ok.bind (sf_X12_plain (s := s) (by omega) hs1 hs) (fun q4 pl => ?_)
      have x19 : hi q4 226 19 = v := (pl.1.1.1 226 19 (by unfold plW; omega)).trans w19
      rw [x19]
      have y19 : hi (wrI q4 226 39 (130 * v)) 226 19 = v := (hiK rfl 226 19 (by decide)).trans x19
      rw [y19]
      have m1 := mlT 130 v 130 lit_130 (by omega) (by omega)
      have m2 := mlT 420 v 420 lit_420 (by omega) (by omega)
      generalize eH : wrI (wrI q4 226 39 (130 * v)) 226 45 (420 * v) = hC
      obtain ⟨jr, rc⟩ := rd_begin hs1 rC lC z2 jc hs e6 pl (by omega) (by omega) eH
      have t0 := jr.1.2.2.1.1
      have fz : (hi hC 226 13).toInt = 0 := by
        rw [← eH, hi_wrI, if_neg (by decide), hi_wrI, if_neg (by decide), pl.1.1.1 226 13 (by unfold plW; omega), ← e6, (rd_w6 q2 v).2.2.1]
        exact f0
      exact rd_112 hs1 d (by omega) rc n hC jr fz (by omega)
    · refine Ok.chk (ixT (by omega) (by omega)) (fun c2 => ?_)
      refine Ok.pos c2 ?_
      have a1 := adT l1 1 (by omega) (by omega)
      refine ih _ (l1 + 1) (by omega) (by omega) (fun x k q => ?_) (fun x k => c x k) (by omega)
      rw [hi_wrI, if_neg (fun w => q w.1)]
      exact b x k q
theorem sf_X12_read {n : Nat} (hn : 68719600000 ≤ n) (d : dI hS) (kd : ∀ k, 0 ≤ (hi hS 229 k).toInt) : Ok (F_X12_read n hS) (rdP hS) := by
  have f0 := lit_0
  unfold F_X12_read
  exact rd_10 d kd rfl n _ 0 (by omega) (by omega) (fun _ _ _ => rfl) (fun _ _ => rfl) (by omega)
end RS
