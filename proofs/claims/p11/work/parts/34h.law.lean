/-! READING: a term, a law -/
section LT
variable {s : Nat} {hC : Hp}
/-- behind an expression that is asked for where there is no fault yet -/
theorem sr_ex {n : Nat} {h : Hp} (hn : 3000 ≤ n) (hs : s ≤ 1) (j : jL s hC h) (fz : (hi h 226 13).toInt = 0) : Ok (F_X12_expression n h) (fun q => jL s hC q ∧ ∃ c0 : Nat, (hi h 226 45).toInt = c0 ∧ xR c0 h q) := by
  have a := j.1.2.2.2.2.1
  have g := j.2 fz
  have g3 := g.2.2.1
  have t := j.1.2.2.1.1
  have hc : (hi h 226 45).toInt = ((hi h 226 45).toInt.toNat : Int) := by omega
  exact (sr_expr hn j.1.2.2.1 fz g.1 hc ⟨by omega, by omega⟩).mono (fun q hq => ⟨j.x hs fz hc hq, _, hc, hq⟩)
/-- the branch's row is whole: one branch more -/
theorem jL.br {h : Hp} (hs : s ≤ 1) (j : jL s hC h) (b3 : (hi h 226 39).toInt ≤ 130 * s + 103) {k : Nat} (hk : (k : Int) = (hi h 226 39).toInt) (v : Int32) : jL s hC (wrI (wrI h 256 k v) 226 39 (hi h 226 39 + 1)) ∧ (∀ f, cuO s f h → (f ≤ (hi h 226 39).toInt) → obO s (wrI (wrI h 256 k v) 226 39 (hi h 226 39 + 1)) k → v.toInt ≤ (hi h 226 45).toInt → cuO s f (wrI (wrI h 256 k v) 226 39 (hi h 226 39 + 1))) := by
  have f1 := lit_1
  have b8 := j.1.2.2.2.2.2
  have a1 := adT (hi h 226 39) 1 (by omega) (by omega)
  have j1 := j.wb hs (v := v) (a := 256) (by decide) (by decide) hk
  have cw (f : Int) (c : cuO s f h) := c.wb (v := v) (a := 256) (by decide) (by decide) hk
  generalize eg : wrI h 256 k v = g at j1 cw
  have g39 : hi g 226 39 = hi h 226 39 := hiA eg 226 39 (by decide)
  have g45 : hi g 226 45 = hi h 226 45 := hiA eg 226 45 (by decide)
  have g256 : hi g 256 k = v := hiE eg
  have r (a z : Nat) (h1 : ¬ (a = 226 ∧ z = 39)) : hi (wrI g 226 39 (hi h 226 39 + 1)) a z = hi g a z := by rw [hi_wrI, if_neg h1]
  have r39 : hi (wrI g 226 39 (hi h 226 39 + 1)) 226 39 = hi h 226 39 + 1 := by rw [hi_wrI, if_pos ⟨rfl, rfl⟩]
  have r2 (z : Nat) (h1 : z ≠ 39) := r 226 z (by omega)
  refine ⟨?_, fun f c fl o v1 => ?_⟩
  · obtain ⟨⟨⟨b1, b2⟩, ⟨b3, b4⟩, b5, b6, b7, b8⟩, gg⟩ := j1
    refine ⟨⟨⟨fun a z q => ?_, fun a z q => b2 a z q⟩, ⟨by rw [r2 2 (by decide)]; exact b3, by rw [r2 19 (by decide)]; exact b4⟩, tI_w b5 (by decide) (by decide) (by decide), ?_, by rw [r2 45 (by decide), r2 11 (by decide)]; exact b7, by rw [r39]; omega⟩, fun z => ?_⟩
    · rw [r a z (by unfold frB at q; omega)]
      exact b1 a z q
    · unfold cnB
      rw [r 237 s (by omega), r 242 s (by omega), r 226 20 (by omega), r 245 s (by omega)]
      exact b6
    · rw [r2 13 (by decide)] at z
      obtain ⟨y1, y2, y3, y5, y6⟩ := gg z
      exact ⟨by rw [r2 12 (by decide)]; exact y1, by rw [r2 20 (by decide), r 242 s (by omega)]; exact y2, by rw [r2 45 (by decide), r2 11 (by decide)]; exact y3, fun w => (y5 (by rw [r2 15 (by decide)] at w; exact w)).cg (fun a z h1 h2 => r a z (by omega)), y6.cg (fun a z h1 h2 => r a z (by omega)) (by rw [r39, g39]; omega) (by rw [r2 45 (by decide)]; omega)⟩
  · have c' := cw f c
    unfold cuO at c' ⊢
    rw [r39, r2 45 (by decide)]
    rw [g39, g45] at c'
    refine ⟨c'.1, by omega, fun b b1 b2 => ?_⟩
    rw [r 256 b (by omega)]
    by_cases z : b = k
    · subst z
      rw [g256, g45]
      exact ⟨o, v1⟩
    · have y := c'.2.2 b b1 (by omega)
      rw [g45]
      exact ⟨ob_cx (fun a' q1 q2 => r a' b (by omega)) (fun a' k' q1 _ => r a' k' (by omega)) y.1, y.2⟩
/-- what a term leaves -/
def tR (s : Nat) (hC h q : Hp) : Prop := jL s hC q ∧ (hi q 226 39).toInt = (hi h 226 39).toInt + 1 ∧ (hi h 226 11).toInt ≤ (hi q 226 11).toInt ∧ ((hi q 226 13).toInt = 0 → (hi h 226 13).toInt = 0 ∧ (hi h 226 11).toInt + 1 ≤ (hi q 226 11).toInt ∧ ∀ f, cuO s f h → (∀ k : Nat, (k : Int) = (hi h 226 39).toInt → (vp_nar .boolean (hi h 252 k)).toInt ≠ 0 → oiO (hi h 257) (hi h 258) (hi h 253 k) (hi h 254 k) ∧ oiO (hi h 257) (hi h 258) (hi h 254 k) (hi h 226 45) ∧ 420 * (s : Int) ≤ (hi h 253 k).toInt) → cuO s f q)
set_option maxHeartbeats 4000000 in
theorem sr_term {n : Nat} {h : Hp} (hn : 3000 ≤ n) (hs : s ≤ 1) (j : jL s hC h) (b3 : (hi h 226 39).toInt ≤ 130 * s + 103) : Ok (F_X12_term n h) (fun q => tR s hC h q) := by
  have b8 := j.1.2.2.2.2.2
  have a45 := j.1.2.2.2.2.1
  have f0 := lit_0
  have f1 := lit_1
  have a1 := adT (hi h 226 39) 1 (by omega) (by omega)
  have nk := ncT (show 0 ≤ (hi h 226 39).toInt by omega)
  unfold F_X12_term
  have im : ixOK (hi h 226 39) 260 = true := ixT (by omega) (by omega)
  refine Ok.pos im ?_
  generalize ek : Int32.toNatClampNeg (hi h 226 39) = k
  rw [ek] at nk
  have j1 := j.wb hs (v := hi h 226 45) (a := 255) (by decide) (by decide) nk
  have cw (f : Int) (c : cuO s f h) := c.wb (v := hi h 226 45) (a := 255) (by decide) (by decide) nk
  generalize eg : wrI h 255 k (hi h 226 45) = g at j1 cw
  have g2 (z : Nat) : hi g 226 z = hi h 226 z := hiA eg 226 z (by decide)
  have ga (a z : Nat) (ha : a ≠ 255) : hi g a z = hi h a z := hiA eg a z ha
  have g255 : hi g 255 k = hi h 226 45 := hiE eg
  rw [g2]
  refine Ok.eq (fun c1 => ?_) (fun c1 => ?_)
  · have fz : (hi g 226 13).toInt = 0 := by rw [g2]; omega
    refine Ok.bind (sr_ex hn hs j1 fz) (fun q hq => ?_)
    obtain ⟨jq, c0, hc, x⟩ := hq
    rw [g2] at hc
    have jx := x
    obtain ⟨⟨x1, x2⟩, x3, ⟨x4, x5, x6⟩, c, x7, x8, x9, x10⟩ := x
    have q39 : hi q 226 39 = hi h 226 39 := (x1 226 39 rfl).trans (g2 39)
    rw [q39, ek]
    refine Ok.pos im ?_
    have z0 (z : Int32) : hi (wrI q 256 k z) 226 39 = hi h 226 39 := by rw [hi_wrI, if_neg (by omega)]; exact q39
    rw [z0]
    have jb := jq.br hs (k := k) (by rw [q39]; exact b3) (by rw [q39]; exact nk) (hi q 226 45)
    rw [q39] at jb
    generalize eg3 : wrI (wrI q 256 k (hi q 226 45)) 226 39 (hi h 226 39 + 1) = r at jb
    have rr (a z : Nat) (h1 : ¬ (a = 226 ∧ z = 39)) (h2 : ¬ (a = 256 ∧ z = k)) : hi r a z = hi q a z := by rw [← eg3, hi_wrI, if_neg h1, hi_wrI, if_neg h2]
    have r39 : hi r 226 39 = hi h 226 39 + 1 := by rw [← eg3, hi_wrI, if_pos ⟨rfl, rfl⟩]
    have r256 : hi r 256 k = hi q 226 45 := by rw [← eg3, hi_wrI, if_neg (by omega), hi_wrI, if_pos ⟨rfl, rfl⟩]
    have r13 := rr 226 13 (by decide) (by omega)
    have r11 := rr 226 11 (by decide) (by omega)
    rw [g2] at x6
    refine Ok.ret ⟨jb.1, by rw [r39]; omega, by rw [r11]; exact x6, fun z => ?_⟩
    rw [r13] at z
    obtain ⟨y1, y2, y3, y4⟩ := x10 z
    rw [g2] at y4
    refine ⟨by omega, by rw [r11]; exact y4, fun f cf ht => ?_⟩
    have cx := (cw f cf).x (by rw [g2]; exact hc) jx
    have qa (a z : Nat) (h1 : a ≠ 226) (h2 : a ≠ 259) (h3 : ¬ ((a = 257 ∨ a = 258) ∧ c0 ≤ z ∧ z < 420 * (c0 / 420) + 420)) (h4 : a ≠ 255) : hi q a z = hi h a z := (x1 a z (eKn h1 h2 h3)).trans (ga a z h4)
    have q255 : hi q 255 k = hi h 226 45 := (x1 255 k (eKn (by decide) (by decide) (by omega))).trans g255
    refine jb.2 f cx cf.2.1 ?_ (Int.le_refl _)
    have w7 : hi r 257 = hi q 257 := funext fun z => rr 257 z (by omega) (by omega)
    have w8 : hi r 258 = hi q 258 := funext fun z => rr 258 z (by omega) (by omega)
    unfold obO
    rw [w7, w8, r256, rr 252 k (by omega) (by omega), rr 253 k (by omega) (by omega), rr 254 k (by omega) (by omega), rr 255 k (by omega) (by omega), q255, qa 252 k (by decide) (by decide) (by omega) (by decide), qa 253 k (by decide) (by decide) (by omega) (by decide), qa 254 k (by decide) (by decide) (by omega) (by decide)]
    have n45 := ncT (show 0 ≤ (hi h 226 45).toInt by omega)
    have n46 := ncT (show 0 ≤ (hi q 226 45).toInt by omega)
    have tt := x3.1
    have gl := (j.2 (by omega)).2.2.1
    rw [g2] at x9 y3
    refine ⟨fun z2 => ?_, ⟨by omega, by omega, ?_⟩, by omega, fun z2 => (ht k nk z2).2.2, by omega⟩
    · have h3 := ht k nk z2
      have l2 := oi_le h3.2.1
      exact ⟨oi_cg (hi h 226 45).toInt l2 (fun i il => qa 257 i (by decide) (by decide) (by omega) (by decide)) (fun i il => qa 258 i (by decide) (by decide) (by omega) (by decide)) h3.1, oi_cg (hi h 226 45).toInt (Int.le_refl _) (fun i il => qa 257 i (by decide) (by decide) (by omega) (by decide)) (fun i il => qa 258 i (by decide) (by decide) (by omega) (by decide)) h3.2.1⟩
    · rw [show Int32.toNatClampNeg (hi h 226 45) = c0 by omega, show Int32.toNatClampNeg (hi q 226 45) = c by omega]
      exact y2
  · rw [g2 39, g2 45, ek]
    refine Ok.pos im ?_
    have z0 (z : Int32) : hi (wrI g 256 k z) 226 39 = hi h 226 39 := by rw [hi_wrI, if_neg (by omega)]; exact g2 39
    rw [z0]
    have jb := j1.br hs (k := k) (by rw [g2]; exact b3) (by rw [g2]; exact nk) (hi h 226 45)
    rw [g2 39] at jb
    refine Ok.ret ⟨jb.1, ?_, ?_, fun z => ?_⟩
    · rw [hi_wrI, if_pos ⟨rfl, rfl⟩]; omega
    · rw [hi_wrI, if_neg (by decide), hi_wrI, if_neg (by omega), g2]
      exact Int.le_refl _
    · rw [hi_wrI, if_neg (by decide), hi_wrI, if_neg (by omega), g2] at z
      exact absurd (z.trans f0.symm) c1
end LT
