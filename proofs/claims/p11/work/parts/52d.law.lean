/-! LAWS: what the reference lays down -/
theorem Pc.yb {α : Type} {o : Option α} {g : Hp} {F : α → Hp} {f : α → Option Hp} (h1 : Pc o (fun x => zr g (F x))) (h2 : ∀ x, Pc (f x) (fun q => zr (F x) q)) : Pc (o.bind f) (fun q => zr g q) := Pc.bind h1 (fun x hx => (h2 x).mono (fun _ m => hx.tr m))
theorem Pc.ys {α : Type} {o : Option α} {F : α → Hp} {A : α → Prop} {f : α → Option Hp} {P : Hp → Prop} (h1 : Pc o (fun x => zR (F x) → A x)) (h2 : ∀ x, zR (F x) → A x → Pc (f x) (fun q => zR q → P q)) (h3 : ∀ x, Pc (f x) (fun q => zr (F x) q)) : Pc (o.bind f) (fun q => zR q → P q) := by
  refine Pc.bind h1 (fun x a => ?_)
  by_cases z : zR (F x)
  · exact h2 x z (a z)
  · exact (h3 x).mono (fun q m y => absurd (m.2.1 y) z)
/-- where the reference stands in a law -/
def rlI (N : Nat) (kd pl vl : Nat → Int) (s t B c : Nat) (h : Hp) : Prop := (RT N kd pl vl h ∧ tI2 N t ∧ rT pl h 0 t ∧ (hi h 226 12).toInt = 0) ∧ (hi h 226 39).toInt = (B : Int) ∧ (hi h 226 45).toInt = (c : Int) ∧ (hi h 226 19).toInt = (s : Int)
/-- what lies below is as it was -/
def kB (B c : Nat) (h q : Hp) : Prop := (∀ a k, 252 ≤ a → a ≤ 256 → k < B → hi q a k = hi h a k) ∧ (∀ k, k < c → hi q 257 k = hi h 257 k ∧ hi q 258 k = hi h 258 k) ∧ (∀ k, hi q 250 k = hi h 250 k) ∧ ∀ k, hi q 251 k = hi h 251 k
theorem kB.rf (B c : Nat) (h : Hp) : kB B c h h := ⟨fun _ _ _ _ _ => rfl, fun _ _ => ⟨rfl, rfl⟩, fun _ => rfl, fun _ => rfl⟩
theorem kB.tr {B c B' c' : Nat} {h q r : Hp} (a : kB B c h q) (b : kB B' c' q r) (hB : B ≤ B') (hc : c ≤ c') : kB B c h r := ⟨fun x k h1 h2 h3 => (b.1 x k h1 h2 (by omega)).trans (a.1 x k h1 h2 h3), fun k hk => ⟨(b.2.1 k (by omega)).1.trans (a.2.1 k hk).1, (b.2.1 k (by omega)).2.trans (a.2.1 k hk).2⟩, fun k => (b.2.2.1 k).trans (a.2.2.1 k), fun k => (b.2.2.2 k).trans (a.2.2.2 k)⟩
theorem frQ.kB {B c : Nat} {h q : Hp} (f : frQ h q) : kB B c h q := ⟨fun a k h1 h2 _ => f.1 a k (by omega), fun k _ => ⟨f.1 257 k (by omega), f.1 258 k (by omega)⟩, fun k => f.1 250 k (by omega), fun k => f.1 251 k (by omega)⟩
section RL
variable {N : Nat} {kd pl vl : Nat → Int} {s t B c : Nat} {h : Hp} {n : Nat}
theorem rlI.q {q : Hp} {t' : Nat} (a : rlI N kd pl vl s t B c h) (f : frQ h q) (T' : tI2 N t') (S' : rT pl q 0 t') : rlI N kd pl vl s t' B c q := ⟨⟨a.1.1.cg f.rt, T', S', by rw [f.op]; exact a.1.2.2.2⟩, by rw [f.1 226 39 (by decide)]; exact a.2.1, by rw [f.1 226 45 (by decide)]; exact a.2.2.1, by rw [f.1 226 19 (by decide)]; exact a.2.2.2⟩
/-- a TOKEN is taken, and there is no fault -/
theorem rz_must (X : TX N kd pl vl) (a : rlI N kd pl vl s t B c h) {x1 : Int32} (k : Int) (hk : k ∈ vdL) (hx : x1.toInt = rk k) (k2 : k ≠ 32) : Pc (F_X12_must n h x1) (fun q => zR q → rlI N kd pl vl s (t + 1) B c q ∧ kd t = k ∧ frQ h q ∧ t < 400) := by
  refine (pr_must X a.1.1 a.1.2.1 a.1.2.2.1 k hk hx).mono (fun q hq z => ?_)
  have T' := tk_in X a.1.2.1 (k := k) (f := 0) k2
  have fz : (tkS kd k 0 t).1 = 0 := by
    have := hq.2.2.1
    unfold zR at z
    omega
  obtain ⟨-, e1, e2, e3⟩ := tk_z fz
  have S' := hq.2
  rw [e3] at S' T'
  exact ⟨a.q hq.1 T' S', e1, hq.1, e2⟩
/-- one that is there is taken -/
theorem rz_goes (X : TX N kd pl vl) (a : rlI N kd pl vl s t B c h) (k2 : kd t ≠ 32) : Pc (F_X12_goesOn n h) (fun q => zR q → rlI N kd pl vl s (t + 1) B c q ∧ frQ h q ∧ t < 400) := by
  refine (pr_goesOn' a.1.1 a.1.2.1 a.1.2.2.1).mono (fun q hq z => ?_)
  have T' := gn_in X a.1.2.1 k2
  have S' := hq.2
  unfold gnS at T' S'
  by_cases c4 : t < 400
  · rw [if_pos c4] at T' S'
    exact ⟨a.q hq.1 T' S', hq.1, c4⟩
  · rw [if_neg c4] at S'
    exfalso
    have y : (hi q 226 13).toInt = 2 := S'.2.1
    unfold zR at z
    omega
/-- a sum is told, and there is no fault -/
theorem rz_sum (X : TX N kd pl vl) (a : rlI N kd pl vl s t B c h) : Pc (F_X12_expression n h) (fun q => zR q → ∃ C t', rlI N kd pl vl s t' B (c + C.length) q ∧ meE kd vl t C t' ∧ ocP h q c C ∧ frE h q) := by
  refine fun q e => ?_
  have p := pr_sum X a.1.1 a.1.2.1 a.1.2.2.1 (fun _ => a.1.2.2.2) q e
  have r := qr_sum X a.1.1 a.1.2.1 a.1.2.2.1 a.1.2.2.2 a.2.2.1 q e
  intro z
  obtain ⟨m1, f', t1, m2, m3, m4, m5⟩ := p
  obtain ⟨C, t', r1, r2, r3⟩ := r z
  have z' : (hi q 226 13).toInt = 0 := z
  have f0 : f' = 0 := by have := m2.2.1; omega
  subst f0
  have tt : t' = t1 := by
    have x := r1.2.2.1 rfl
    have y := m2.2.2.1 rfl
    omega
  subst tt
  refine ⟨C, t', ⟨⟨a.1.1.cg m1.rt, m3, r1, m5 rfl⟩, ?_, r3.1, ?_⟩, r2, r3, m1⟩
  · rw [m1.1 226 39 (by decide) (by decide) (by decide) (by decide)]; exact a.2.1
  · rw [m1.1 226 19 (by decide) (by decide) (by decide) (by decide)]; exact a.2.2.2
theorem ocP.kB {q : Hp} {C : List Int32} (o : ocP h q c C) (m : frE h q) : kB B c h q := ⟨fun a k h1 h2 _ => m.1 a k (by omega) (by omega) (by omega) (by omega), fun k hk => o.2.2 k hk, fun k => m.1 250 k (by omega) (by omega) (by omega) (by omega), fun k => m.1 251 k (by omega) (by omega) (by omega) (by omega)⟩
/-- a cell of a branch is written -/
theorem rlI.w (a : rlI N kd pl vl s t B c h) {x k : Nat} {v : Int32} (hx : 250 ≤ x ∧ x ≤ 256) : rlI N kd pl vl s t B c (wrI h x k v) := by
  have e (y z : Nat) (n : y < 250) : hi (wrI h x k v) y z = hi h y z := by rw [hi_wrI, if_neg (by omega)]
  refine ⟨⟨a.1.1.cg ⟨fun z => e 229 z (by decide), fun z => e 230 z (by decide), fun z => e 231 z (by decide)⟩, a.1.2.1, ?_, ?_⟩, ?_, ?_, ?_⟩
  · unfold rT
    rw [e 226 13 (by decide), e 226 11 (by decide), e 226 14 (by decide)]
    exact a.1.2.2.1
  · rw [e 226 12 (by decide)]; exact a.1.2.2.2
  · rw [e 226 39 (by decide)]; exact a.2.1
  · rw [e 226 45 (by decide)]; exact a.2.2.1
  · rw [e 226 19 (by decide)]; exact a.2.2.2
theorem kB.w {x k : Nat} {v : Int32} (hx : 252 ≤ x ∧ x ≤ 256) (hk : B ≤ k) : kB B c h (wrI h x k v) := ⟨fun a z h1 h2 h3 => by rw [hi_wrI, if_neg (by omega)], fun z hz => ⟨by rw [hi_wrI, if_neg (by omega)], by rw [hi_wrI, if_neg (by omega)]⟩, fun z => by rw [hi_wrI, if_neg (by omega)], fun z => by rw [hi_wrI, if_neg (by omega)]⟩
/-- a term is told, and there is no fault -/
theorem rz_term (X : TX N kd pl vl) (a : rlI N kd pl vl s t B c h) : Pc (F_X12_term n h) (fun q => zR q → ∃ C t', rlI N kd pl vl s t' (B + 1) (c + C.length) q ∧ meE kd vl t C t' ∧ (hi q 255 B).toInt = (c : Int) ∧ (hi q 256 B).toInt = (c : Int) + C.length ∧ rcA (hi q 257) (hi q 258) c C ∧ kB B c h q ∧ hi q 252 B = hi h 252 B ∧ hi q 253 B = hi h 253 B ∧ hi q 254 B = hi h 254 B ∧ B < 260) := by
  have f0 := lit_0
  have f1 := lit_1
  have a39 := a.2.1
  have n9 := ncT (show 0 ≤ (hi h 226 39).toInt by omega)
  have n9' : Int32.toNatClampNeg (hi h 226 39) = B := by omega
  unfold F_X12_term
  refine Pc.chk (fun cb => ?_)
  have b26 : B < 260 := by have := ixO_lt cb; omega
  rw [n9']
  generalize eg : wrI h 255 B (hi h 226 45) = g
  have ag : rlI N kd pl vl s t B c g := by rw [← eg]; exact a.w (by omega)
  have kg : kB B c h g := by rw [← eg]; exact kB.w (by omega) (Nat.le_refl B)
  have g5 : hi g 255 B = hi h 226 45 := hiE eg
  have rg (x k : Nat) (hx : x ≠ 255) : hi g x k = hi h x k := hiA eg x k hx
  have sg := ag.1.2.2.1.2.1
  refine Pc.eq (fun c0 => ?_) (fun c0 => by exfalso; omega)
  refine Pc.ys (rz_sum X ag) (fun q4 _ b => ?_) (fun q => ?_)
  rotate_left
  · refine Pc.ite (fun _ => Pc.ret ?_) (fun _ => Pc.no)
    exact ((zr.rf _).w (by omega)).w (by omega)
  obtain ⟨C, t', b1, b2, b3, b4⟩ := b
  have b39 := b1.2.1
  have m9 := ncT (show 0 ≤ (hi q4 226 39).toInt by omega)
  have m9' : Int32.toNatClampNeg (hi q4 226 39) = B := by omega
  refine Pc.chk (fun _ => ?_)
  rw [m9']
  have e39 : hi (wrI q4 256 B (hi q4 226 45)) 226 39 = hi q4 226 39 := hiA rfl 226 39 (by decide)
  rw [e39]
  refine Pc.ret (fun _ => ?_)
  generalize ew : wrI (wrI q4 256 B (hi q4 226 45)) 226 39 (hi q4 226 39 + 1) = w
  have rw' (x k : Nat) (m1 : ¬ (x = 256 ∧ k = B)) (m2 : ¬ (x = 226 ∧ k = 39)) : hi w x k = hi q4 x k := by rw [← ew, hi_wrI, if_neg m2, hi_wrI, if_neg m1]
  have ad := adT (hi q4 226 39) 1 (by omega) (by omega)
  have bq (x k : Nat) (h1 : 250 ≤ x) (h2 : x ≤ 256) : hi q4 x k = hi g x k := b4.1 x k (by omega) (by omega) (by omega) (by omega)
  refine ⟨C, t', ⟨⟨b1.1.1.cg ⟨fun k => rw' 229 k (by omega) (by omega), fun k => rw' 230 k (by omega) (by omega), fun k => rw' 231 k (by omega) (by omega)⟩, b1.1.2.1, ?_, ?_⟩, ?_, ?_, ?_⟩, b2, ?_, ?_, ?_, ?_, ?_, ?_, ?_, b26⟩
  · unfold rT
    rw [rw' 226 13 (by omega) (by decide), rw' 226 11 (by omega) (by decide), rw' 226 14 (by omega) (by decide)]
    exact b1.1.2.2.1
  · rw [rw' 226 12 (by omega) (by decide)]; exact b1.1.2.2.2
  · rw [← ew, hiE rfl]; omega
  · rw [rw' 226 45 (by omega) (by decide)]; exact b1.2.2.1
  · rw [rw' 226 19 (by omega) (by decide)]; exact b1.2.2.2
  · rw [rw' 255 B (by omega) (by omega), bq 255 B (by decide) (by decide), g5]; exact a.2.2.1
  · rw [← ew, hi_wrI, if_neg (by omega), hiE rfl]
    have := b1.2.2.1
    omega
  · exact b3.2.1.cg (fun k _ _ => ⟨rw' 257 k (by omega) (by omega), rw' 258 k (by omega) (by omega)⟩)
  · refine kg.tr ((b3.kB (B := B) b4).tr (B' := B) (c' := c) ⟨fun x k h1 h2 h3 => rw' x k (by omega) (by omega), fun k _ => ⟨rw' 257 k (by omega) (by omega), rw' 258 k (by omega) (by omega)⟩, fun k => rw' 250 k (by omega) (by omega), fun k => rw' 251 k (by omega) (by omega)⟩ (Nat.le_refl B) (Nat.le_refl c)) (Nat.le_refl B) (Nat.le_refl c)
  · rw [rw' 252 B (by omega) (by omega), bq 252 B (by decide) (by decide), rg 252 B (by decide)]
  · rw [rw' 253 B (by omega) (by omega), bq 253 B (by decide) (by decide), rg 253 B (by decide)]
  · rw [rw' 254 B (by omega) (by omega), bq 254 B (by decide) (by decide), rg 254 B (by decide)]
/-- what a law told lays down -/
def lawR (N : Nat) (kd pl vl : Nat → Int) (s t B c k : Nat) (first : Int32) (h q : Hp) : Prop := ∃ bs f t' c', LW (meE kd vl) kd bs t f t' ∧ kd t' = 59 ∧ rlI N kd pl vl s (t' + 1) (B + bs.length + 1) c' q ∧ c ≤ c' ∧ rlB q c' B bs f ∧ hi q 250 (4 * s + k) = first ∧ (hi q 251 (4 * s + k)).toInt = ((B + bs.length + 1 : Nat) : Int) ∧ (∀ a j, 252 ≤ a → a ≤ 256 → j < B → hi q a j = hi h a j) ∧ (∀ j, j < c → hi q 257 j = hi h 257 j ∧ hi q 258 j = hi h 258 j) ∧ (∀ j, j ≠ 4 * s + k → hi q 250 j = hi h 250 j ∧ hi q 251 j = hi h 251 j)
theorem lawR_end (X : TX N kd pl vl) (a : rlI N kd pl vl s t B c h) (ne : kd t ≠ 19) {k : Nat} {l1 l2 : Int32} (hk : l1.toInt = (k : Int)) (k4 : k < 4) (hs : s ≤ 1) : Pc (if ixOK (hi h 226 39) 260 = true then ((F_X12_term n (wrI h 252 (Int32.toNatClampNeg (hi h 226 39)) 0)).bind (fun q14 => ((F_X12_must n q14 4).bind (fun q16 => (if ((hi q16 226 13) : Int32) ≤ (0 : Int32) then (if ixOK ((4 * (hi q16 226 19)) + l1) 8 = true then (if ixOK ((4 * (hi (wrI q16 250 (Int32.toNatClampNeg ((4 * (hi q16 226 19)) + l1)) l2) 226 19)) + l1) 8 = true then some (wrI (wrI q16 250 (Int32.toNatClampNeg ((4 * (hi q16 226 19)) + l1)) l2) 251 (Int32.toNatClampNeg ((4 * (hi (wrI q16 250 (Int32.toNatClampNeg ((4 * (hi q16 226 19)) + l1)) l2) 226 19)) + l1)) (hi (wrI q16 250 (Int32.toNatClampNeg ((4 * (hi q16 226 19)) + l1)) l2) 226 39)) else none) else none) else some q16))))) else none) (fun q => zR q → lawR N kd pl vl s t B c k l2 h q) := by
  have f0 := lit_0
  have f4 := lit_4
  have a39 := a.2.1
  have n9 := ncT (show 0 ≤ (hi h 226 39).toInt by omega)
  have n9' : Int32.toNatClampNeg (hi h 226 39) = B := by omega
  refine Pc.chk (fun _ => ?_)
  rw [n9']
  generalize eg : wrI h 252 B 0 = g
  have ag : rlI N kd pl vl s t B c g := by rw [← eg]; exact a.w (by omega)
  have kg : kB B c h g := by rw [← eg]; exact kB.w (by omega) (Nat.le_refl B)
  have g2 : hi g 252 B = 0 := hiE eg
  refine Pc.ys (rz_term X ag) (fun q14 _ b => ?_) (fun q => ?_)
  rotate_left
  · refine Pc.yb zb_X12_must (fun q16 => ?_)
    refine Pc.ite (fun _ => Pc.ite (fun _ => Pc.ite (fun _ => Pc.ret (((zr.rf _).w (by omega)).w (by omega))) (fun _ => Pc.no)) (fun _ => Pc.no)) (fun _ => Pc.ret (zr.rf _))
  obtain ⟨C, t', b1, b2, b3, b4, b5, b6, b7, b8, b9, b10⟩ := b
  refine Pc.ys (rz_must X b1 59 (by decide) (by decide) (by decide)) (fun q16 z16 d => ?_) (fun q16 => ?_)
  rotate_left
  · refine Pc.ite (fun _ => Pc.ite (fun _ => Pc.ite (fun _ => Pc.ret (((zr.rf _).w (by omega)).w (by omega))) (fun _ => Pc.no)) (fun _ => Pc.no)) (fun _ => Pc.ret (zr.rf _))
  obtain ⟨d1, d2, d3, d4⟩ := d
  have z' : (hi q16 226 13).toInt = 0 := z16
  refine Pc.le (fun _ => ?_) (fun q => by exfalso; omega)
  have d19 := d1.2.2.2
  have m4 := mlT 4 (hi q16 226 19) 4 f4 (by omega) (by omega)
  have ad := adT (4 * hi q16 226 19) l1 (by omega) (by omega)
  have nn := ncT (show 0 ≤ (4 * hi q16 226 19 + l1).toInt by omega)
  have nn' : Int32.toNatClampNeg (4 * hi q16 226 19 + l1) = 4 * s + k := by omega
  have e19 (v : Int32) (j : Nat) : hi (wrI q16 250 j v) 226 19 = hi q16 226 19 := hiA rfl 226 19 (by decide)
  have e39 (v : Int32) (j : Nat) : hi (wrI q16 250 j v) 226 39 = hi q16 226 39 := hiA rfl 226 39 (by decide)
  rw [e19, e39, nn']
  refine Pc.chk (fun _ => Pc.chk (fun _ => Pc.ret (fun _ => ?_)))
  generalize ew : wrI (wrI q16 250 (4 * s + k) l2) 251 (4 * s + k) (hi q16 226 39) = w
  have rw' (x j : Nat) (m : ¬ ((x = 250 ∨ x = 251) ∧ j = 4 * s + k)) : hi w x j = hi q16 x j := by rw [← ew, hi_wrI, if_neg (by omega), hi_wrI, if_neg (by omega)]
  have rq (x j : Nat) (m1 : 250 ≤ x) : hi q16 x j = hi q14 x j := d3.1 x j (by omega)
  have KB : kB B c h q14 := kg.tr b6 (Nat.le_refl B) (Nat.le_refl c)
  have l0 : ([] : List ((List Int32 × List Int32) × List Int32)).length = 0 := rfl
  refine ⟨[], C, t', c + C.length, ⟨ne, b2⟩, d2, ?_, by omega, ?_, ?_, ?_, fun x j h1 h2 h3 => ?_, fun j hj => ⟨?_, ?_⟩, fun j hj => ⟨?_, ?_⟩⟩
  · have := (d1.w (x := 250) (k := 4 * s + k) (v := l2) (by omega)).w (x := 251) (k := 4 * s + k) (v := hi q16 226 39) (by omega)
    rw [ew] at this
    exact this
  · refine ⟨?_, c, ?_, ?_, ?_, by omega⟩
    · rw [rw' 252 B (by omega), rq 252 B (by decide), b7, g2]; decide
    · rw [rw' 255 B (by omega), rq 255 B (by decide)]; exact b3
    · rw [rw' 256 B (by omega), rq 256 B (by decide)]; exact b4
    · exact b5.cg (fun j _ _ => ⟨by rw [rw' 257 j (by omega), rq 257 j (by decide)], by rw [rw' 258 j (by omega), rq 258 j (by decide)]⟩)
  · rw [← ew, hi_wrI, if_neg (by omega), hiE rfl]
  · rw [← ew, hiE rfl, l0]; exact d1.2.1
  · rw [rw' x j (by omega), rq x j (by omega)]; exact KB.1 x j h1 h2 h3
  · rw [rw' 257 j (by omega), rq 257 j (by decide)]; exact (KB.2.1 j hj).1
  · rw [rw' 258 j (by omega), rq 258 j (by decide)]; exact (KB.2.1 j hj).2
  · rw [rw' 250 j (by omega), rq 250 j (by decide)]; exact KB.2.2.1 j
  · rw [rw' 251 j (by omega), rq 251 j (by decide)]; exact KB.2.2.2 j
set_option maxHeartbeats 8000000 in
theorem qr_lawL (X : TX N kd pl vl) {k : Nat} {l1 l2 : Int32} (hk : l1.toInt = (k : Int)) (k4 : k < 4) (hs : s ≤ 1) : ∀ (n : Nat) (h : Hp) (l3 : Int32) (t B c : Nat), rlI N kd pl vl s t B c h → 0 ≤ l3.toInt → l3.toInt ≤ 4 → Pc (W_X12_tellLaw n 12 h l1 l2 l3) (fun q => zR q → lawR N kd pl vl s t B c k l2 h q) := by
  have f0 := lit_0
  have f1 := lit_1
  have f2 := lit_2
  have f4 := lit_4
  have vb1 : (vp_nar .boolean (1 : Int32)).toInt = 1 := by decide
  intro n
  induction n with
  | zero => intro h l3 t B c a b1 b2; exact Pc.no
  | succ n ih =>
    intro h l3 t B c a p1 p2
    rw [u_X12_tellLaw]
    refine Pc.pos rfl ?_
    have s1 := a.1.2.2.1.2.1
    refine Pc.eq (fun c0 => ?_) (fun c0 => by exfalso; omega)
    refine Pc.bind (pr_is X a.1.1 a.1.2.1 a.1.2.2.1 19 (by decide) (by decide)) (fun q10 h10 => ?_)
    rw [h10.1]
    refine Pc.eq (fun c1 => lawR_end X a (fun z => h10.2.mpr ⟨rfl, z⟩ (c1.trans f0)) hk k4 hs) (fun c1 => ?_)
    have ek : kd t = 19 := (h10.2.mp (by omega)).2
    have a1 := adT l3 1 (by omega) (by omega)
    refine Pc.eq (fun c2 => ?_) (fun c2 => ?_)
    · refine Pc.bind (pr_fail a.1.1 a.1.2.1 a.1.2.2.1 (by decide)) (fun q47 h47 => ?_)
      have s47 := h47.2
      rw [if_pos rfl, f2] at s47
      have g1 := s47.2.1
      refine Pc.le (fun c3 => by exfalso; omega) (fun c3 => Pc.ret (fun z => ?_))
      exfalso
      unfold zR at z
      omega
    · refine Pc.le (fun c3 => ?_) (fun c3 => by exfalso; omega)
      refine Pc.ys (rz_goes X a (by omega)) (fun q23 _ b => ?_) (fun q => ?_)
      rotate_left
      · (repeat (first | exact Pc.ret (zr.rf _) | exact Pc.ret ((zr.rf _).w (by omega)) | exact Pc.ret (((zr.rf _).w (by omega)).w (by omega)) | exact zv_X12_tellLaw _ _ _ _ _ _ | refine Pc.ite (fun _ => ?_) (fun _ => ?_) | exact Pc.no | refine Pc.yb zb_X12_must (fun _ => ?_) | refine Pc.yb zb_X12_expression (fun _ => ?_) | refine Pc.yb zb_X12_term (fun _ => ?_) | refine Pc.yb ((zb_X12_must).mono (fun _ m => (((zr.rf _).w (by omega)).tr m))) (fun _ => ?_) | refine Pc.yb ((zb_X12_expression).mono (fun _ m => (((zr.rf _).w (by omega)).tr m))) (fun _ => ?_) | refine Pc.yb ((zb_X12_expression).mono (fun _ m => ((((zr.rf _).w (by omega)).w (by omega)).tr m))) (fun _ => ?_)))
      obtain ⟨b1, b2, b3⟩ := b
      have b39 := b1.2.1
      have n9 := ncT (show 0 ≤ (hi q23 226 39).toInt by omega)
      have n9' : Int32.toNatClampNeg (hi q23 226 39) = B := by omega
      refine Pc.chk (fun _ => ?_)
      have e39 (v : Int32) (j : Nat) : hi (wrI q23 252 j v) 226 39 = hi q23 226 39 := hiA rfl 226 39 (by decide)
      have e45 (v : Int32) (j : Nat) : hi (wrI q23 252 j v) 226 45 = hi q23 226 45 := hiA rfl 226 45 (by decide)
      rw [e39, e45, n9']
      refine Pc.chk (fun _ => ?_)
      generalize eg : wrI (wrI q23 252 B 1) 253 B (hi q23 226 45) = g
      have ag : rlI N kd pl vl s (t + 1) B c g := by rw [← eg]; exact (b1.w (by omega)).w (by omega)
      have kg : kB B c h g := by
        rw [← eg]
        exact (b2.kB.tr (kB.w (x := 252) (v := 1) (by omega) (Nat.le_refl B)) (Nat.le_refl B) (Nat.le_refl c)).tr (kB.w (by omega) (Nat.le_refl B)) (Nat.le_refl B) (Nat.le_refl c)
      have g52 : hi g 252 B = 1 := by rw [← eg, hi_wrI, if_neg (by omega), hiE rfl]
      have g53 : hi g 253 B = hi q23 226 45 := hiE eg
      refine Pc.ys (rz_sum X ag) (fun q27 _ b => ?_) (fun q => ?_)
      rotate_left
      · (repeat (first | exact Pc.ret (zr.rf _) | exact Pc.ret ((zr.rf _).w (by omega)) | exact Pc.ret (((zr.rf _).w (by omega)).w (by omega)) | exact zv_X12_tellLaw _ _ _ _ _ _ | refine Pc.ite (fun _ => ?_) (fun _ => ?_) | exact Pc.no | refine Pc.yb zb_X12_must (fun _ => ?_) | refine Pc.yb zb_X12_expression (fun _ => ?_) | refine Pc.yb zb_X12_term (fun _ => ?_) | refine Pc.yb ((zb_X12_must).mono (fun _ m => (((zr.rf _).w (by omega)).tr m))) (fun _ => ?_) | refine Pc.yb ((zb_X12_expression).mono (fun _ m => (((zr.rf _).w (by omega)).tr m))) (fun _ => ?_) | refine Pc.yb ((zb_X12_expression).mono (fun _ m => ((((zr.rf _).w (by omega)).w (by omega)).tr m))) (fun _ => ?_)))
      obtain ⟨x, t1, d1, d2, d3, d4⟩ := b
      refine Pc.ys (rz_must X d1 60 (by decide) (by decide) (by decide)) (fun q29 z29 b => ?_) (fun q => ?_)
      rotate_left
      · (repeat (first | exact Pc.ret (zr.rf _) | exact Pc.ret ((zr.rf _).w (by omega)) | exact Pc.ret (((zr.rf _).w (by omega)).w (by omega)) | exact zv_X12_tellLaw _ _ _ _ _ _ | refine Pc.ite (fun _ => ?_) (fun _ => ?_) | exact Pc.no | refine Pc.yb zb_X12_must (fun _ => ?_) | refine Pc.yb zb_X12_expression (fun _ => ?_) | refine Pc.yb zb_X12_term (fun _ => ?_) | refine Pc.yb ((zb_X12_must).mono (fun _ m => (((zr.rf _).w (by omega)).tr m))) (fun _ => ?_) | refine Pc.yb ((zb_X12_expression).mono (fun _ m => (((zr.rf _).w (by omega)).tr m))) (fun _ => ?_) | refine Pc.yb ((zb_X12_expression).mono (fun _ m => ((((zr.rf _).w (by omega)).w (by omega)).tr m))) (fun _ => ?_)))
      obtain ⟨e1, e2, e3, e4⟩ := b
      have e39' := e1.2.1
      have m9 := ncT (show 0 ≤ (hi q29 226 39).toInt by omega)
      have m9' : Int32.toNatClampNeg (hi q29 226 39) = B := by omega
      refine Pc.chk (fun _ => ?_)
      rw [m9']
      generalize ev : wrI q29 254 B (hi q29 226 45) = v
      have av : rlI N kd pl vl s (t1 + 1) B (c + x.length) v := by rw [← ev]; exact e1.w (by omega)
      have v54 : hi v 254 B = hi q29 226 45 := hiE ev
      have rv (y j : Nat) (m : y ≠ 254) : hi v y j = hi q29 y j := hiA ev y j m
      have zv : (hi v 226 13).toInt = 0 := av.1.2.2.1.2.1
      refine Pc.eq (fun c4 => ?_) (fun c4 => by exfalso; omega)
      refine Pc.ys (rz_sum X av) (fun q39 _ b => ?_) (fun q => ?_)
      rotate_left
      · (repeat (first | exact Pc.ret (zr.rf _) | exact Pc.ret ((zr.rf _).w (by omega)) | exact Pc.ret (((zr.rf _).w (by omega)).w (by omega)) | exact zv_X12_tellLaw _ _ _ _ _ _ | refine Pc.ite (fun _ => ?_) (fun _ => ?_) | exact Pc.no | refine Pc.yb zb_X12_must (fun _ => ?_) | refine Pc.yb zb_X12_expression (fun _ => ?_) | refine Pc.yb zb_X12_term (fun _ => ?_) | refine Pc.yb ((zb_X12_must).mono (fun _ m => (((zr.rf _).w (by omega)).tr m))) (fun _ => ?_) | refine Pc.yb ((zb_X12_expression).mono (fun _ m => (((zr.rf _).w (by omega)).tr m))) (fun _ => ?_) | refine Pc.yb ((zb_X12_expression).mono (fun _ m => ((((zr.rf _).w (by omega)).w (by omega)).tr m))) (fun _ => ?_)))
      obtain ⟨y, t2, i1, i2, i3, i4⟩ := b
      refine Pc.ys (rz_must X i1 20 (by decide) (by decide) (by decide)) (fun q41 _ b => ?_) (fun q => ?_)
      rotate_left
      · (repeat (first | exact Pc.ret (zr.rf _) | exact Pc.ret ((zr.rf _).w (by omega)) | exact Pc.ret (((zr.rf _).w (by omega)).w (by omega)) | exact zv_X12_tellLaw _ _ _ _ _ _ | refine Pc.ite (fun _ => ?_) (fun _ => ?_) | exact Pc.no | refine Pc.yb zb_X12_must (fun _ => ?_) | refine Pc.yb zb_X12_expression (fun _ => ?_) | refine Pc.yb zb_X12_term (fun _ => ?_) | refine Pc.yb ((zb_X12_must).mono (fun _ m => (((zr.rf _).w (by omega)).tr m))) (fun _ => ?_) | refine Pc.yb ((zb_X12_expression).mono (fun _ m => (((zr.rf _).w (by omega)).tr m))) (fun _ => ?_) | refine Pc.yb ((zb_X12_expression).mono (fun _ m => ((((zr.rf _).w (by omega)).w (by omega)).tr m))) (fun _ => ?_)))
      obtain ⟨j1, j2, j3, j4⟩ := b
      refine Pc.ys (rz_term X j1) (fun q43 _ b => ?_) (fun q => ?_)
      rotate_left
      · (repeat (first | exact Pc.ret (zr.rf _) | exact Pc.ret ((zr.rf _).w (by omega)) | exact Pc.ret (((zr.rf _).w (by omega)).w (by omega)) | exact zv_X12_tellLaw _ _ _ _ _ _ | refine Pc.ite (fun _ => ?_) (fun _ => ?_) | exact Pc.no | refine Pc.yb zb_X12_must (fun _ => ?_) | refine Pc.yb zb_X12_expression (fun _ => ?_) | refine Pc.yb zb_X12_term (fun _ => ?_) | refine Pc.yb ((zb_X12_must).mono (fun _ m => (((zr.rf _).w (by omega)).tr m))) (fun _ => ?_) | refine Pc.yb ((zb_X12_expression).mono (fun _ m => (((zr.rf _).w (by omega)).tr m))) (fun _ => ?_) | refine Pc.yb ((zb_X12_expression).mono (fun _ m => ((((zr.rf _).w (by omega)).w (by omega)).tr m))) (fun _ => ?_)))
      obtain ⟨C, t3, k1, k2, k3, k4', k5, k6, k7, k8, k9, k10⟩ := b
      refine Pc.ys (rz_must X k1 21 (by decide) (by decide) (by decide)) (fun q45 _ b => ?_) (fun q => ?_)
      rotate_left
      · (repeat (first | exact Pc.ret (zr.rf _) | exact Pc.ret ((zr.rf _).w (by omega)) | exact Pc.ret (((zr.rf _).w (by omega)).w (by omega)) | exact zv_X12_tellLaw _ _ _ _ _ _ | refine Pc.ite (fun _ => ?_) (fun _ => ?_) | exact Pc.no | refine Pc.yb zb_X12_must (fun _ => ?_) | refine Pc.yb zb_X12_expression (fun _ => ?_) | refine Pc.yb zb_X12_term (fun _ => ?_) | refine Pc.yb ((zb_X12_must).mono (fun _ m => (((zr.rf _).w (by omega)).tr m))) (fun _ => ?_) | refine Pc.yb ((zb_X12_expression).mono (fun _ m => (((zr.rf _).w (by omega)).tr m))) (fun _ => ?_) | refine Pc.yb ((zb_X12_expression).mono (fun _ m => ((((zr.rf _).w (by omega)).w (by omega)).tr m))) (fun _ => ?_)))
      obtain ⟨m1, m2, m3, m4⟩ := b
      refine (ih q45 (l3 + 1) (t3 + 1) (B + 1) (c + x.length + y.length + C.length) m1 (by omega) (by omega)).mono (fun q hq z => ?_)
      obtain ⟨bs, f, t', c', o1, o2, o3, o4, o5, o6, o7, o8, o9, o10⟩ := hq z
      have lb : (((x, y), C) :: bs).length = bs.length + 1 := rfl
      have eB : B + (((x, y), C) :: bs).length + 1 = B + 1 + bs.length + 1 := by omega
      -- what lies at B, and below
      have q7 (j : Nat) (hj : j < c + x.length + y.length + C.length) : hi q 257 j = hi q43 257 j ∧ hi q 258 j = hi q43 258 j := by
        rw [(o9 j hj).1, (o9 j hj).2, m3.1 257 j (by omega), m3.1 258 j (by omega)]
        exact ⟨rfl, rfl⟩
      have qb (a : Nat) (h1 : 252 ≤ a) (h2 : a ≤ 256) : hi q a B = hi q43 a B := by
        rw [o8 a B h1 h2 (by omega), m3.1 a B (by omega)]
      have q41b (a : Nat) (h1 : 252 ≤ a) (h2 : a ≤ 256) : hi q41 a B = hi v a B := by
        rw [j3.1 a B (by omega), i4.1 a B (by omega) (by omega) (by omega) (by omega)]
      have q29b (a : Nat) (h1 : 252 ≤ a) (h2 : a ≤ 256) : hi q29 a B = hi g a B := by
        rw [e3.1 a B (by omega), d4.1 a B (by omega) (by omega) (by omega) (by omega)]
      have K1 : kB B c h q29 := kg.tr ((d3.kB (B := B) d4).tr (B' := B) (c' := c) e3.kB (Nat.le_refl B) (Nat.le_refl c)) (Nat.le_refl B) (Nat.le_refl c)
      have K2 : kB B c h v := K1.tr (B' := B) (c' := c) (by rw [← ev]; exact kB.w (by omega) (Nat.le_refl B)) (Nat.le_refl B) (Nat.le_refl c)
      have K3 : kB B c h q41 := K2.tr ((i3.kB (B := B) i4).tr (B' := B) (c' := c + x.length) j3.kB (Nat.le_refl B) (Nat.le_refl _)) (Nat.le_refl B) (by omega)
      have K4 : kB B c h q45 := (K3.tr k6 (Nat.le_refl B) (by omega)).tr (B' := B) (c' := c) m3.kB (Nat.le_refl B) (Nat.le_refl c)
      have c29 := e1.2.2.1
      have x7 : rcA (hi q29 257) (hi q29 258) c x := d3.2.1.cg (fun j _ _ => ⟨e3.1 257 j (by omega), e3.1 258 j (by omega)⟩)
      have xv : rcA (hi v 257) (hi v 258) c x := x7.cg (fun j _ _ => ⟨rv 257 j (by decide), rv 258 j (by decide)⟩)
      have x39 : rcA (hi q39 257) (hi q39 258) c x := xv.cg (fun j _ h2 => i3.2.2 j h2)
      have x41 : rcA (hi q41 257) (hi q41 258) c x := x39.cg (fun j _ _ => ⟨j3.1 257 j (by omega), j3.1 258 j (by omega)⟩)
      have y41 : rcA (hi q41 257) (hi q41 258) (c + x.length) y := i3.2.1.cg (fun j _ _ => ⟨j3.1 257 j (by omega), j3.1 258 j (by omega)⟩)
      refine ⟨((x, y), C) :: bs, f, t', c', ⟨ek, t1, t2, t3, d2, e2, i2, j2, k2, m2, o1⟩, o2, by rw [eB]; exact o3, by omega, ⟨⟨?_, c, ?_, ?_, ?_, ?_, ?_, ?_, ?_, o4⟩, o5⟩, o6, by rw [eB]; exact o7, fun a j h1 h2 h3 => ?_, fun j hj => ⟨?_, ?_⟩, fun j hj => ⟨?_, ?_⟩⟩
      · rw [qb 252 (by decide) (by decide), k7, q41b 252 (by decide) (by decide), rv 252 B (by decide), q29b 252 (by decide) (by decide), g52, vb1]; decide
      · rw [qb 253 (by decide) (by decide), k8, q41b 253 (by decide) (by decide), rv 253 B (by decide), q29b 253 (by decide) (by decide), g53]; exact b1.2.2.1
      · rw [qb 254 (by decide) (by decide), k9, q41b 254 (by decide) (by decide), v54, c29]; omega
      · rw [qb 255 (by decide) (by decide), k3]; omega
      · rw [qb 256 (by decide) (by decide), k4']
      · exact x41.cg (fun j _ h2 => by rw [(q7 j (by omega)).1, (q7 j (by omega)).2]; exact k6.2.1 j (by omega))
      · exact y41.cg (fun j _ h2 => by rw [(q7 j (by omega)).1, (q7 j (by omega)).2]; exact k6.2.1 j (by omega))
      · exact k5.cg (fun j _ h2 => q7 j (by omega))
      · rw [o8 a j h1 h2 (by omega)]; exact K4.1 a j h1 h2 h3
      · rw [(o9 j (by omega)).1]; exact (K4.2.1 j hj).1
      · rw [(o9 j (by omega)).2]; exact (K4.2.1 j hj).2
      · rw [(o10 j hj).1]; exact K4.2.2.1 j
      · rw [(o10 j hj).2]; exact K4.2.2.2 j
/-- a law, told: behind its word -/
theorem qr_law (X : TX N kd pl vl) (a : rlI N kd pl vl s t B c h) {k : Nat} {x1 : Int32} (hk : x1.toInt = (k : Int)) (k4 : k < 4) (hs : s ≤ 1) : Pc (F_X12_tellLaw n h x1) (fun q => zR q → ∃ bs f t' c', kd t = 61 ∧ LW (meE kd vl) kd bs (t + 1) f t' ∧ kd t' = 59 ∧ rlI N kd pl vl s (t' + 1) (B + bs.length + 1) c' q ∧ c ≤ c' ∧ rlB q c' B bs f ∧ (hi q 250 (4 * s + k)).toInt = (B : Int) ∧ (hi q 251 (4 * s + k)).toInt = ((B + bs.length + 1 : Nat) : Int) ∧ (∀ a j, 252 ≤ a → a ≤ 256 → j < B → hi q a j = hi h a j) ∧ (∀ j, j < c → hi q 257 j = hi h 257 j ∧ hi q 258 j = hi h 258 j) ∧ (∀ j, j ≠ 4 * s + k → hi q 250 j = hi h 250 j ∧ hi q 251 j = hi h 251 j)) := by
  have f0 := lit_0
  unfold F_X12_tellLaw
  refine Pc.ys (rz_must X a 61 (by decide) (by decide) (by decide)) (fun q _ b => ?_) (fun q => zv_X12_tellLaw _ _ _ _ _ _)
  obtain ⟨b1, b2, b3, b4⟩ := b
  have b39 := b1.2.1
  refine (qr_lawL X hk k4 hs n q 0 (t + 1) B c b1 (by omega) (by omega)).mono (fun r hr z => ?_)
  obtain ⟨bs, f, t', c', o1, o2, o3, o4, o5, o6, o7, o8, o9, o10⟩ := hr z
  refine ⟨bs, f, t', c', b2, o1, o2, o3, o4, o5, by rw [o6]; exact b39, o7, fun x j h1 h2 h3 => ?_, fun j hj => ⟨?_, ?_⟩, fun j hj => ⟨?_, ?_⟩⟩
  · rw [o8 x j h1 h2 h3, b3.1 x j (by omega)]
  · rw [(o9 j hj).1, b3.1 257 j (by omega)]
  · rw [(o9 j hj).2, b3.1 258 j (by omega)]
  · rw [(o10 j hj).1, b3.1 250 j (by omega)]
  · rw [(o10 j hj).2, b3.1 251 j (by omega)]
end RL
