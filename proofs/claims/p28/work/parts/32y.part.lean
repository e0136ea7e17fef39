section
theorem sf_X12_part {h0 : Hp} (s0 : rS h0) (n : Nat) (h : Hp) (x1 x2 : Int32) (hn : 51539607552 ≤ n) (j : jA h0 h) : Ok (F_X12_part n h x1 x2) (fun q => jA h0 q.2 ∧ True) := by
  have f0 := cnR s0
  have f1 := lit_0
  unfold F_X12_part
  refine Ok.bind (sb_areFree s0 n h x1 x2 (by omega) j) (fun q26 hq26 => ?_)
  obtain ⟨e26, y26⟩ := hq26
  rw [e26]
  refine Ok.eq (fun _ => Ok.ret ⟨j, trivial⟩) (fun c1 => ?_)
  obtain ⟨a1, a2, a3, a4, a5⟩ := y26 (by omega)
  refine Ok.bind (sf_X12_copies s0 n h (by omega) j) (fun q29 hq29 => ?_)
  obtain ⟨j29, y29⟩ := hq29
  have b1 : bt (hi q29 263 50) (Int32.toNatClampNeg x1) = false := by
    rw [y29 50 (by decide)]
    exact a5
  refine Ok.bind (sa_X12_nearBits s0 n q29 _ (by omega) j29) (fun q31 hq31 => ?_)
  rw [hq31.1]
  refine Ok.ite (fun _ => Ok.ret ⟨j29, trivial⟩) (fun _ => ?_)
  refine Ok.bind (sa_X12_isParted s0 n q29 x1 x2 0 (by omega) j29 a1 a2 b1 (bt_zero _)) (fun q34 hq34 => ?_)
  rw [hq34.1]
  refine Ok.ite (fun _ => ?_) (fun _ => Ok.ret ⟨j29, trivial⟩)
  have f4 := lit_0
  refine (sfW_X12_part_50 s0 n q29 x1 x2 4 0 0 0 j29 a1 a2 b1 (by omega) (by omega) (by omega) (by omega)).mono (fun q hq => ⟨?_, trivial⟩)
  rw [hq.1]
  exact j29
end
section
/-! rows copied: what is done, undone, held -/
def agr (a : Nat) (h h' : Hp) : Prop := (∀ a' k, a' ≠ a → hi h' a' k = hi h a' k) ∧ (∀ a' k, hl h' a' k = hl h a' k)
def cpI (A B : Nat) (D S : Nat → Nat) (hS h : Hp) (l : Nat) : Prop := agr A hS h ∧ (∀ k, k < l → hi h A (D k) = hi hS B (S k)) ∧ (∀ x, (∀ k, k < l → x ≠ D k) → hi h A x = hi hS A x)
theorem cpI.zero (A B : Nat) (D S : Nat → Nat) (h : Hp) : cpI A B D S h h 0 := ⟨⟨fun _ _ _ => rfl, fun _ _ => rfl⟩, fun k q => absurd q (Nat.not_lt_zero k), fun _ _ => rfl⟩
theorem cpI.step {A B : Nat} {D S : Nat → Nat} {hS h : Hp} {l : Nat} (c : cpI A B D S hS h l) (inj : ∀ k, k < l → D k ≠ D l) {d : Nat} {v : Int32} (hd : d = D l) (hv : v = hi hS B (S l)) : cpI A B D S hS (wrI h A d v) (l + 1) := by
  subst hd
  refine ⟨⟨fun a' k q => ?_, fun a' k => c.1.2 a' k⟩, fun k hk => ?_, fun x hx => ?_⟩
  · rw [hi_wrI, if_neg (fun z => q z.1)]
    exact c.1.1 a' k q
  · rw [hi_wrI]
    by_cases q : k = l
    · subst q
      rw [if_pos ⟨rfl, rfl⟩]
      exact hv
    · rw [if_neg (fun z => inj k (by omega) z.2)]
      exact c.2.1 k (by omega)
  · rw [hi_wrI, if_neg (fun z => hx l (by omega) z.2)]
    exact c.2.2 x (fun k hk => hx k (by omega))
theorem i63 {x y : Int32} (hx : 0 ≤ x.toInt) (hx2 : x.toInt ≤ 39) (hy : 0 ≤ y.toInt) (hy2 : y.toInt < 63) : (63 * x + y).toInt = 63 * x.toInt + y.toInt ∧ Int32.toNatClampNeg (63 * x + y) = 63 * Int32.toNatClampNeg x + Int32.toNatClampNeg y := by
  have f1 := lit_63
  have f2 := mlT 63 x 63 lit_63 (by omega) (by omega)
  have f3 := adT (63 * x) y (by omega) (by omega)
  have k : (63 * x + y).toInt = 63 * x.toInt + y.toInt := by omega
  have n0 := ncT (show 0 ≤ (63 * x + y).toInt by omega)
  have n1 := ncT hx
  have n2 := ncT hy
  exact ⟨k, by omega⟩
theorem cp_keeps {hS : Hp} {P : Hp → Prop} (kk : ∀ q, cpI 262 263 (fun k => k) (fun k => k) hS q 63 → P q) : ∀ n : Nat, ∀ (h : Hp) (l1 : Int32), 0 ≤ l1.toInt → l1.toInt ≤ 63 → cpI 262 263 (fun k => k) (fun k => k) hS h (Int32.toNatClampNeg l1) → (1 : Int) + (63 - l1.toInt) < n → Ok (W_X12_keepsRow n 2 h l1) P := by
  intro n
  induction n with
  | zero => intro h l1 a b c d; exfalso; omega
  | succ n ih =>
    intro h l1 a b c d
    have f1 := ncT a
    have f63 := lit_63
    have f2 := adT l1 1
    have f3 := lit_1
    rw [u_X12_keepsRow]
    refine Ok.pos rfl ?_
    refine Ok.le (fun c1 => ?_) (fun c1 => ?_)
    · refine Ok.ret (kk h ?_)
      rw [show Int32.toNatClampNeg l1 = 63 by omega] at c
      exact c
    · refine Ok.chk (ixT (by omega) (by omega)) (fun c2 => ?_)
      refine Ok.pos c2 ?_
      have f4 := ncT (show 0 ≤ (l1 + 1 : Int32).toInt by omega)
      refine ih _ (l1 + 1) (by omega) (by omega) ?_ (by omega)
      rw [show Int32.toNatClampNeg (l1 + 1) = Int32.toNatClampNeg l1 + 1 by omega]
      exact c.step (fun k hk => by show k ≠ Int32.toNatClampNeg l1; omega) rfl (c.1.1 263 _ (by decide))
theorem sf_X12_keepsRow {n : Nat} {h : Hp} (hn : 100 ≤ n) : Ok (F_X12_keepsRow n h) (fun q => cpI 262 263 (fun k => k) (fun k => k) h q 63) := by
  have f0 := lit_0
  have f1 := ncT (show 0 ≤ (0 : Int32).toInt by omega)
  unfold F_X12_keepsRow
  refine cp_keeps (fun q hq => hq) n h 0 (by omega) (by omega) ?_ (by omega)
  rw [show Int32.toNatClampNeg 0 = 0 by omega]
  exact cpI.zero _ _ _ _ h
theorem cp_undo {hS : Hp} (u0 : 0 ≤ (hi hS 226 59).toInt) (u1 : (hi hS 226 59).toInt ≤ 39) {P : Int32 × Hp → Prop} (kk : ∀ q, cpI 262 266 (fun k => k) (fun k => 63 * Int32.toNatClampNeg (hi hS 226 59) + k) hS q 63 → P (1, q)) : ∀ n : Nat, ∀ (h : Hp) (l1 : Int32), 0 ≤ l1.toInt → l1.toInt ≤ 63 → cpI 262 266 (fun k => k) (fun k => 63 * Int32.toNatClampNeg (hi hS 226 59) + k) hS h (Int32.toNatClampNeg l1) → (1 : Int) + (63 - l1.toInt) < n → Ok (W_X12_undo n 21 h l1) P := by
  intro n
  induction n with
  | zero => intro h l1 a b c d; exfalso; omega
  | succ n ih =>
    intro h l1 a b c d
    have f1 := ncT a
    have f63 := lit_63
    have f2 := adT l1 1
    have f3 := lit_1
    rw [u_X12_undo]
    refine Ok.pos rfl ?_
    refine Ok.le (fun c1 => ?_) (fun c1 => ?_)
    · refine Ok.ret (kk h ?_)
      rw [show Int32.toNatClampNeg l1 = 63 by omega] at c
      exact c
    · have e1 : hi h 226 59 = hi hS 226 59 := c.1.1 226 59 (by decide)
      rw [e1]
      have ix := i63 u0 u1 a (by omega)
      have iu := ncT u0
      refine Ok.chk (ixT (by omega) (by omega)) (fun c2 => ?_)
      refine Ok.chk (ixT (by omega) (by omega)) (fun c3 => ?_)
      have f4 := ncT (show 0 ≤ (l1 + 1 : Int32).toInt by omega)
      refine ih _ (l1 + 1) (by omega) (by omega) ?_ (by omega)
      rw [show Int32.toNatClampNeg (l1 + 1) = Int32.toNatClampNeg l1 + 1 by omega]
      refine c.step (fun k hk => by show k ≠ Int32.toNatClampNeg l1; omega) rfl ?_
      rw [ix.2]
      exact c.1.1 266 _ (by decide)
theorem cp_hold {hS : Hp} {x : Int32} (u0 : 0 ≤ x.toInt) (u1 : x.toInt ≤ 2) {P : Int32 × Hp → Prop} (kk : ∀ q, cpI 274 262 (fun k => 63 * Int32.toNatClampNeg x + k) (fun k => k) hS q 63 → P (1, q)) : ∀ n : Nat, ∀ (h : Hp) (l2 : Int32), 0 ≤ l2.toInt → l2.toInt ≤ 63 → cpI 274 262 (fun k => 63 * Int32.toNatClampNeg x + k) (fun k => k) hS h (Int32.toNatClampNeg l2) → (1 : Int) + (63 - l2.toInt) < n → Ok (W_X12_hold n 20 h x l2) P := by
  intro n
  induction n with
  | zero => intro h l1 a b c d; exfalso; omega
  | succ n ih =>
    intro h l1 a b c d
    have f1 := ncT a
    have f63 := lit_63
    have f2 := adT l1 1
    have f3 := lit_1
    rw [u_X12_hold]
    refine Ok.pos rfl ?_
    refine Ok.le (fun c1 => ?_) (fun c1 => ?_)
    · refine Ok.ret (kk h ?_)
      rw [show Int32.toNatClampNeg l1 = 63 by omega] at c
      exact c
    · have ix := i63 u0 (by omega) a (by omega)
      have iu := ncT u0
      refine Ok.chk (ixT (by omega) (by omega)) (fun c2 => ?_)
      refine Ok.chk (ixT (by omega) (by omega)) (fun c3 => ?_)
      have f4 := ncT (show 0 ≤ (l1 + 1 : Int32).toInt by omega)
      refine ih _ (l1 + 1) (by omega) (by omega) ?_ (by omega)
      rw [show Int32.toNatClampNeg (l1 + 1) = Int32.toNatClampNeg l1 + 1 by omega]
      exact c.step (fun k hk => by show 63 * Int32.toNatClampNeg x + k ≠ 63 * Int32.toNatClampNeg x + Int32.toNatClampNeg l1; omega) ix.2 (c.1.1 262 _ (by decide))
theorem cp_restore {hS : Hp} {x : Int32} (u0 : 0 ≤ x.toInt) (u1 : x.toInt ≤ 2) {P : Int32 × Hp → Prop} (kk : ∀ q, cpI 262 274 (fun k => k) (fun k => 63 * Int32.toNatClampNeg x + k) hS q 63 → P (1, wrI q 226 59 0)) : ∀ n : Nat, ∀ (h : Hp) (l2 : Int32), 0 ≤ l2.toInt → l2.toInt ≤ 63 → cpI 262 274 (fun k => k) (fun k => 63 * Int32.toNatClampNeg x + k) hS h (Int32.toNatClampNeg l2) → (1 : Int) + (63 - l2.toInt) < n → Ok (W_X12_restore n 22 h x l2) P := by
  intro n
  induction n with
  | zero => intro h l1 a b c d; exfalso; omega
  | succ n ih =>
    intro h l1 a b c d
    have f1 := ncT a
    have f63 := lit_63
    have f2 := adT l1 1
    have f3 := lit_1
    rw [u_X12_restore]
    refine Ok.pos rfl ?_
    refine Ok.le (fun c1 => ?_) (fun c1 => ?_)
    · refine Ok.ret (kk h ?_)
      rw [show Int32.toNatClampNeg l1 = 63 by omega] at c
      exact c
    · have ix := i63 u0 (by omega) a (by omega)
      have iu := ncT u0
      refine Ok.chk (ixT (by omega) (by omega)) (fun c2 => ?_)
      refine Ok.chk (ixT (by omega) (by omega)) (fun c3 => ?_)
      have f4 := ncT (show 0 ≤ (l1 + 1 : Int32).toInt by omega)
      refine ih _ (l1 + 1) (by omega) (by omega) ?_ (by omega)
      rw [show Int32.toNatClampNeg (l1 + 1) = Int32.toNatClampNeg l1 + 1 by omega]
      refine c.step (fun k hk => by show k ≠ Int32.toNatClampNeg l1; omega) rfl ?_
      rw [ix.2]
      exact c.1.1 274 _ (by decide)
/-! a thing done -/
theorem cp_rec2 {hS : Hp} (u0 : 0 ≤ (hi hS 226 59).toInt) (u1 : (hi hS 226 59).toInt ≤ 39) {P : Hp → Prop} (kk : ∀ q q2, cpI 266 262 (fun k => 63 * Int32.toNatClampNeg (hi hS 226 59) + k) (fun k => k) hS q 63 → cpI 262 263 (fun k => k) (fun k => k) (wrI q 226 59 (hi hS 226 59 + 1)) q2 63 → P q2) : ∀ n : Nat, ∀ (h : Hp) (l1 : Int32), 0 ≤ l1.toInt → l1.toInt ≤ 63 → cpI 266 262 (fun k => 63 * Int32.toNatClampNeg (hi hS 226 59) + k) (fun k => k) hS h (Int32.toNatClampNeg l1) → (200 : Int) + (63 - l1.toInt) < n → Ok (W_X12_records n 51 h l1) P := by
  intro n
  induction n with
  | zero => intro h l1 a b c d; exfalso; omega
  | succ n ih =>
    intro h l1 a b c d
    have f1 := ncT a
    have f63 := lit_63
    have f2 := adT l1 1
    have f3 := lit_1
    have e1 : hi h 226 59 = hi hS 226 59 := c.1.1 226 59 (by decide)
    rw [u_X12_records]
    refine Ok.neg (by decide) ?_
    refine Ok.pos rfl ?_
    rw [e1]
    refine Ok.le (fun c1 => ?_) (fun c1 => ?_)
    · rw [show Int32.toNatClampNeg l1 = 63 by omega] at c
      refine Ok.bind (sf_X12_keepsRow (by omega)) (fun q5 hq5 => ?_)
      exact Ok.ret (kk h q5 c hq5)
    · have ix := i63 u0 u1 a (by omega)
      have iu := ncT u0
      refine Ok.chk (ixT (by omega) (by omega)) (fun c2 => ?_)
      refine Ok.chk (ixT (by omega) (by omega)) (fun c3 => ?_)
      have f4 := ncT (show 0 ≤ (l1 + 1 : Int32).toInt by omega)
      refine ih _ (l1 + 1) (by omega) (by omega) ?_ (by omega)
      rw [show Int32.toNatClampNeg (l1 + 1) = Int32.toNatClampNeg l1 + 1 by omega]
      exact c.step (fun k hk => by show 63 * Int32.toNatClampNeg (hi hS 226 59) + k ≠ 63 * Int32.toNatClampNeg (hi hS 226 59) + Int32.toNatClampNeg l1; omega) ix.2 (c.1.1 262 _ (by decide))
theorem cp_rec1 {hS : Hp} {P : Hp → Prop} (kk : ∀ (m : Nat) (q : Hp), 400 ≤ m → cpI 266 266 (fun k => k) (fun k => k + 63) hS q 2457 → Ok (W_X12_records m 51 (wrI q 226 59 (hi hS 226 59 - 1)) 0) P) : ∀ n : Nat, ∀ (h : Hp) (l1 : Int32), 0 ≤ l1.toInt → l1.toInt ≤ 2457 → cpI 266 266 (fun k => k) (fun k => k + 63) hS h (Int32.toNatClampNeg l1) → (500 : Int) + (2457 - l1.toInt) < n → Ok (W_X12_records n 11 h l1) P := by
  intro n
  induction n with
  | zero => intro h l1 a b c d; exfalso; omega
  | succ n ih =>
    intro h l1 a b c d
    have f1 := ncT a
    have f63 := lit_63
    have f2457 : (2457 : Int32).toInt = 2457 := by decide
    have f2 := adT l1 1
    have f3 := lit_1
    have e1 : hi h 226 59 = hi hS 226 59 := c.1.1 226 59 (by decide)
    rw [u_X12_records]
    refine Ok.pos rfl ?_
    refine Ok.le (fun c1 => ?_) (fun c1 => ?_)
    · rw [show Int32.toNatClampNeg l1 = 2457 by omega] at c
      rw [e1]
      exact kk n h (by omega) c
    · have f5 := adT l1 63
      have f6 := ncT (show 0 ≤ (l1 + 63 : Int32).toInt by omega)
      refine Ok.chk (ixT (by omega) (by omega)) (fun c2 => ?_)
      refine Ok.chk (ixT (by omega) (by omega)) (fun c3 => ?_)
      have f4 := ncT (show 0 ≤ (l1 + 1 : Int32).toInt by omega)
      refine ih _ (l1 + 1) (by omega) (by omega) ?_ (by omega)
      rw [show Int32.toNatClampNeg (l1 + 1) = Int32.toNatClampNeg l1 + 1 by omega]
      refine c.step (fun k hk => by show k ≠ Int32.toNatClampNeg l1; omega) rfl ?_
      rw [show Int32.toNatClampNeg (l1 + 63) = Int32.toNatClampNeg l1 + 63 by omega]
      exact c.2.2 _ (fun k hk => by show Int32.toNatClampNeg l1 + 63 ≠ k; omega)
end
section
/-! THE REFERENCE BETWEEN CALLS -/
def hyO (h : Hp) (a u : Nat) : Nat → Int32 := fun k => hi h a (63 * u + k)
def hsO (c : Int) (h : Hp) : Prop := ∀ u : Nat, (u : Int) < (hi h 226 59).toInt → rwO c (hyO h 266 u) ∧ ovO (hyO h 266 u)
def hdO (c : Int) (h : Hp) : Prop := ∀ s : Nat, s < 3 → (vp_nar .boolean (hi h 273 s)).toInt ≠ 0 → rwO c (hyO h 274 s) ∧ ovO (hyO h 274 s)
def tnO (_c : Int) (h : Hp) : Prop := ∀ k, -1 ≤ (hi h 265 k).toInt ∧ (hi h 265 k).toInt < 25
def dI (h : Hp) : Prop := rS h ∧ (0 ≤ (hi h 226 2).toInt ∧ (hi h 226 2).toInt ≤ 2000) ∧ rwO (cnN h) (hi h 263) ∧ ovO (hi h 263) ∧ tnO (cnN h) h ∧ hsO (cnN h) h ∧ hdO (cnN h) h
/-- the class's cells are as they were -/
def kX (h h' : Hp) : Prop := ∀ a k, a < 226 → hi h' a k = hi h a k ∧ hl h' a k = hl h a k
def dP (h h' : Hp) : Prop := dI h' ∧ kX h h' ∧ (hi h' 226 2 = hi h 226 2 ∧ hi h' 226 17 = hi h 226 17) ∧ (∀ k, hl h' 233 k = hl h 233 k) ∧ ∀ k, hi h' 229 k = hi h 229 k ∧ hi h' 227 k = hi h 227 k
/-- what a text told for good -/
def kC (h0 h : Hp) : Prop := hi h 226 18 = hi h0 226 18 ∧ (∀ a k, 227 ≤ a → a ≤ 258 → hi h a k = hi h0 a k) ∧ (∀ k, hi h 264 k = hi h0 264 k)
theorem sAx {a k : Nat} (h : a < 226) : sA a k = false := by
  simp only [sA, Bool.or_eq_false_iff, Bool.and_eq_false_iff, beq_eq_false_iff_ne]
  omega
theorem sAc {a k : Nat} (h1 : 227 ≤ a) (h2 : a ≤ 258) : sA a k = false := by
  simp only [sA, Bool.or_eq_false_iff, Bool.and_eq_false_iff, beq_eq_false_iff_ne]
  omega
theorem kS.kC {h0 h : Hp} (j : kS h0 h) : kC h0 h := ⟨j 226 18 (by decide), fun a k h1 h2 => j a k (sAc h1 h2), fun k => j 264 k rfl⟩
theorem kC.tr {h0 h1 h2 : Hp} (a : kC h0 h1) (b : kC h1 h2) : kC h0 h2 := ⟨b.1.trans a.1, fun x k p q => (b.2.1 x k p q).trans (a.2.1 x k p q), fun k => (b.2.2 k).trans (a.2.2 k)⟩
section KC
variable {h0 h : Hp}
theorem kC.row (j : kC h0 h) (a : Nat) (h1 : 227 ≤ a) (h2 : a ≤ 258) : hi h a = hi h0 a := funext fun k => j.2.1 a k h1 h2
theorem kC.wd (j : kC h0 h) : wdN h = wdN h0 := by
  unfold wdN
  rw [j.1, j.row 235 (by decide) (by decide)]
theorem kC.hg (j : kC h0 h) : hgN h = hgN h0 := by
  unfold hgN
  rw [j.1, j.row 236 (by decide) (by decide)]
theorem kC.gn (j : kC h0 h) : gnN h = gnN h0 := by
  unfold gnN
  rw [j.1, j.row 242 (by decide) (by decide)]
theorem kC.cn (j : kC h0 h) : cnN h = cnN h0 := by
  unfold cnN
  rw [j.wd, j.hg]
theorem kC.ob (j : kC h0 h) {L : Int} {b : Nat} (o : obO L h0 b) : obO L h b := by
  unfold obO
  rw [j.row 252 (by decide) (by decide), j.row 253 (by decide) (by decide), j.row 254 (by decide) (by decide), j.row 255 (by decide) (by decide), j.row 256 (by decide) (by decide), j.row 257 (by decide) (by decide), j.row 258 (by decide) (by decide)]
  exact o
theorem kC.sd (j : kC h0 h) (s : sdO h0) : sdO h := by
  intro c k hc hk
  rw [j.wd, j.hg, j.2.2]
  rw [j.cn] at hc
  exact s c k hc hk
theorem kC.lws (j : kC h0 h) (s : lwsO h0) : lwsO h := by
  intro i h1 h2
  rw [j.1] at h1 h2 ⊢
  have := s i h1 h2
  unfold olO at this ⊢
  rw [j.row 250 (by decide) (by decide), j.row 251 (by decide) (by decide)]
  rcases this with q | ⟨q1, q2, q3⟩
  · exact Or.inl q
  · exact Or.inr ⟨q1, q2, fun b b1 b2 => j.ob (q3 b b1 b2)⟩
end KC
theorem rwO.cg {c : Int} {f g : Nat → Int32} (e : ∀ k, k < 63 → g k = f k) (r : rwO c f) : rwO c g := ⟨fun k hk => by rw [e k (by omega)]; exact r.1 k hk, fun k h1 h2 => by rw [e k (by omega)]; exact r.2 k h1 h2⟩
theorem ovO.cg {f g : Nat → Int32} (e : ∀ k, k < 63 → g k = f k) (r : ovO f) : ovO g := by
  intro k hk h1
  rw [e k (by omega)] at h1 ⊢
  rw [e (25 + k) (by omega)]
  exact r k hk h1
theorem dI.mk {hC q : Hp} (d : dI hC) (c : kC hC q) (kx : kX hC q) (tp : hi q 226 2 = hi hC 226 2 ∧ hi q 226 17 = hi hC 226 17) (kl : ∀ k, hl q 233 k = hl hC 233 k) (n1 : rwO (cnN hC) (hi q 262)) (n2 : ovO (hi q 262)) (r1 : rwO (cnN hC) (hi q 263)) (r2 : ovO (hi q 263)) (tn : tnO (cnN hC) q) (to : 0 ≤ (hi q 226 65).toInt ∧ (hi q 226 65).toInt ≤ 20) (un : 0 ≤ (hi q 226 59).toInt ∧ (hi q 226 59).toInt ≤ 40) (hs : hsO (cnN hC) q) (hd : hdO (cnN hC) q) : dP hC q := by
  have e := c.cn
  have s : rS q := by
    show (0 ≤ (hi q 226 18).toInt ∧ (hi q 226 18).toInt ≤ 1) ∧ (2 ≤ wdN q ∧ wdN q ≤ 5) ∧ (2 ≤ hgN q ∧ hgN q ≤ 5) ∧ (0 ≤ gnN q ∧ gnN q ≤ 5) ∧ sdO q ∧ lwsO q ∧ rwO (cnN q) (hi q 262) ∧ ovO (hi q 262) ∧ (0 ≤ (hi q 226 65).toInt ∧ (hi q 226 65).toInt ≤ 20) ∧ (0 ≤ (hi q 226 59).toInt ∧ (hi q 226 59).toInt ≤ 40)
    rw [c.wd, c.hg, c.gn, e, c.1]
    exact ⟨d.1.1, d.1.2.1, d.1.2.2.1, d.1.2.2.2.1, c.sd d.1.2.2.2.2.1, c.lws d.1.2.2.2.2.2.1, n1, n2, to, un⟩
  refine ⟨⟨s, by rw [tp.1]; exact d.2.1, ?_, r2, ?_, ?_, ?_⟩, kx, tp, kl, fun k => ⟨c.2.1 229 k (by decide) (by decide), c.2.1 227 k (by decide) (by decide)⟩⟩
  · rw [e]; exact r1
  · rw [e]; exact tn
  · rw [e]; exact hs
  · rw [e]; exact hd
theorem jA.of {h : Hp} (d : dI h) : jA h h := ⟨fun _ _ _ => rfl, fun _ _ => rfl, d.2.2.1, d.2.2.2.1, d.2.2.2.2.1⟩
theorem hsO.cg {c : Int} {h h' : Hp} (e1 : hi h' 226 59 = hi h 226 59) (e2 : ∀ k, hi h' 266 k = hi h 266 k) (s : hsO c h) : hsO c h' := by
  intro u hu
  rw [e1] at hu
  exact ⟨(s u hu).1.cg (fun k _ => e2 _), (s u hu).2.cg (fun k _ => e2 _)⟩
theorem hdO.cg {c : Int} {h h' : Hp} (e1 : ∀ k, hi h' 273 k = hi h 273 k) (e2 : ∀ k, hi h' 274 k = hi h 274 k) (s : hdO c h) : hdO c h' := by
  intro u hu h1
  rw [e1] at h1
  exact ⟨(s u hu h1).1.cg (fun k _ => e2 _), (s u hu h1).2.cg (fun k _ => e2 _)⟩
theorem dP.ask {h h' : Hp} (d : dI h) (j : jA h h') : dP h h' :=
  d.mk j.1.kC (fun a k ha => ⟨j.1 a k (sAx ha), j.2.1 a k⟩) ⟨j.1 226 2 (by decide), j.1 226 17 (by decide)⟩ (fun k => j.2.1 233 k) (d.1.2.2.2.2.2.2.1.cg (fun k _ => j.1 262 k rfl)) (d.1.2.2.2.2.2.2.2.1.cg (fun k _ => j.1 262 k rfl)) j.2.2.1 j.2.2.2.1 j.2.2.2.2 (toR d.1 j.1) (unR d.1 j.1) (hsO.cg (j.1 226 59 (by decide)) (fun k => j.1 266 k rfl) d.2.2.2.2.2.1) (hdO.cg (fun k => j.1 273 k rfl) (fun k => j.1 274 k rfl) d.2.2.2.2.2.2)
theorem dP.rf {h : Hp} (d : dI h) : dP h h := dP.ask d (jA.of d)
/-- a thing done: the row is what goes on -/
theorem rec_end {hC h hS q q2 : Hp} (d : dI hC) (j : jA hC h) (e1 : ∀ a k, a ≠ 266 → ¬ (a = 226 ∧ k = 59) → hi hS a k = hi h a k) (e2 : ∀ a k, hl hS a k = hl h a k) (u0 : 0 ≤ (hi hS 226 59).toInt) (u1 : (hi hS 226 59).toInt ≤ 39) (hs : hsO (cnN hC) hS) (c1 : cpI 266 262 (fun k => 63 * Int32.toNatClampNeg (hi hS 226 59) + k) (fun k => k) hS q 63) (c2 : cpI 262 263 (fun k => k) (fun k => k) (wrI q 226 59 (hi hS 226 59 + 1)) q2 63) : dP hC q2 := by
  have f1 := lit_1
  have f2 := adT (hi hS 226 59) 1 (by omega) (by omega)
  have f3 := ncT u0
  have g1 (a k : Nat) (n1 : a ≠ 262) (n2 : a ≠ 266) (n3 : ¬ (a = 226 ∧ k = 59)) : hi q2 a k = hi h a k := by
    rw [c2.1.1 a k n1, hi_wrI, if_neg n3, c1.1.1 a k n2, e1 a k n2 n3]
  have g2 : hi q2 226 59 = hi hS 226 59 + 1 := by
    rw [c2.1.1 226 59 (by decide), hi_wrI, if_pos ⟨rfl, rfl⟩]
  have g3 (k : Nat) (hk : k < 63) : hi q2 262 k = hi h 263 k := by
    rw [c2.2.1 k hk, hi_wrI, if_neg (fun z => absurd z.1 (by decide)), c1.1.1 263 k (by decide), e1 263 k (by decide) (by omega)]
  have g4 (x : Nat) : hi q2 266 x = hi q 266 x := by
    rw [c2.1.1 266 x (by decide), hi_wrI, if_neg (fun z => absurd z.1 (by decide))]
  have gk (a k : Nat) (n1 : a ≠ 262) (n2 : a ≠ 266) (n3 : ¬ (a = 226 ∧ k = 59)) (n4 : sA a k = false) : hi q2 a k = hi hC a k := (g1 a k n1 n2 n3).trans (j.1 a k n4)
  have kl (a k : Nat) : hl q2 a k = hl hC a k := by
    rw [c2.1.2 a k]
    show hl q a k = _
    rw [c1.1.2 a k, e2 a k]
    exact j.2.1 a k
  refine d.mk ⟨gk 226 18 (by decide) (by decide) (by decide) (by decide), fun a k h1 h2 => gk a k (by omega) (by omega) (by omega) (sAc h1 h2), fun k => gk 264 k (by decide) (by decide) (by omega) rfl⟩ (fun a k ha => ⟨gk a k (by omega) (by omega) (by omega) (sAx ha), kl a k⟩) ⟨gk 226 2 (by decide) (by decide) (by decide) (by decide), gk 226 17 (by decide) (by decide) (by decide) (by decide)⟩ (fun k => kl 233 k) (j.2.2.1.cg g3) (j.2.2.2.1.cg g3) (j.2.2.1.cg (fun k _ => g1 263 k (by decide) (by decide) (by omega))) (j.2.2.2.1.cg (fun k _ => g1 263 k (by decide) (by decide) (by omega))) (fun k => ?_) ?_ ?_ (fun u hu => ?_) (hdO.cg (fun k => gk 273 k (by decide) (by decide) (by omega) rfl) (fun k => gk 274 k (by decide) (by decide) (by omega) rfl) d.2.2.2.2.2.2)
  · rw [g1 265 k (by decide) (by decide) (by omega)]
    exact j.2.2.2.2 k
  · rw [gk 226 65 (by decide) (by decide) (by decide) (by decide)]
    exact d.1.2.2.2.2.2.2.2.2.1
  · rw [g2]
    omega
  · rw [g2] at hu
    by_cases z : u = Int32.toNatClampNeg (hi hS 226 59)
    · subst z
      have w (k : Nat) (hk : k < 63) : hyO q2 266 (Int32.toNatClampNeg (hi hS 226 59)) k = hi hC 262 k := by
        show hi q2 266 _ = _
        rw [g4, c1.2.1 k hk, e1 262 k (by decide) (by omega)]
        exact j.1 262 k rfl
      exact ⟨d.1.2.2.2.2.2.2.1.cg w, d.1.2.2.2.2.2.2.2.1.cg w⟩
    · have w (k : Nat) (hk : k < 63) : hyO q2 266 u k = hyO hS 266 u k := by
        show hi q2 266 _ = hi hS 266 _
        rw [g4]
        exact c1.2.2 _ (fun k' hk' => by show 63 * u + k ≠ 63 * Int32.toNatClampNeg (hi hS 226 59) + k'; omega)
      have z2 := hs u (by omega)
      exact ⟨z2.1.cg w, z2.2.cg w⟩
theorem sf_X12_records {hC h : Hp} {n : Nat} (d : dI hC) (j : jA hC h) (hn : 4000 ≤ n) : Ok (F_X12_records n h) (fun q => dP hC q) := by
  have u := unR d.1 j.1
  have f40 : (40 : Int32).toInt = 40 := by decide
  have f0 := lit_0
  have n0 := ncT (show 0 ≤ (0 : Int32).toInt by omega)
  have hs : hsO (cnN hC) h := hsO.cg (j.1 226 59 (by decide)) (fun k => j.1 266 k rfl) d.2.2.2.2.2.1
  unfold F_X12_records
  refine Ok.eq (fun c1 => ?_) (fun c1 => ?_)
  · refine cp_rec1 (hS := h) (fun m q hm c => ?_) n h 0 (by omega) (by omega) (by rw [show Int32.toNatClampNeg 0 = 0 by omega]; exact cpI.zero _ _ _ _ h) (by omega)
    generalize ey : (hi h 226 59 - 1 : Int32) = y
    have f1 := lit_1
    have fy := sbG ey rfl lit_1 (by omega) (by omega)
    have nu := ncT u.1
    have ny := ncT (show 0 ≤ y.toInt by omega)
    generalize eg : wrI q 226 59 y = g
    have gU : hi g 226 59 = y := hiE eg
    refine cp_rec2 (hS := g) (by rw [gU]; omega) (by rw [gU]; omega) (fun q1 q2 z1 z2 => rec_end d j ?_ ?_ ?_ ?_ ?_ z1 z2) m g 0 (by omega) (by omega) (by rw [show Int32.toNatClampNeg 0 = 0 by omega]; exact cpI.zero _ _ _ _ g) (by omega)
    · intro a k n1 n2
      rw [← eg, hi_wrI, if_neg n2]
      exact c.1.1 a k n1
    · intro a k
      rw [← eg]
      exact c.1.2 a k
    · rw [gU]; omega
    · rw [gU]; omega
    · intro v hv
      rw [gU] at hv
      have w (k : Nat) (hk : k < 63) : hyO g 266 v k = hyO h 266 (v + 1) k := by
        show hi g 266 (63 * v + k) = hi h 266 (63 * (v + 1) + k)
        rw [hiA eg 266 _ (by decide), c.2.1 (63 * v + k) (by omega), show 63 * (v + 1) + k = 63 * v + k + 63 by omega]
      have z := hs (v + 1) (by omega)
      exact ⟨z.1.cg w, z.2.cg w⟩
  · exact cp_rec2 (hS := h) u.1 (by omega) (fun q1 q2 z1 z2 => rec_end d j (fun _ _ _ _ => rfl) (fun _ _ => rfl) u.1 (by omega) hs z1 z2) n h 0 (by omega) (by omega) (by rw [show Int32.toNatClampNeg 0 = 0 by omega]; exact cpI.zero _ _ _ _ h) (by omega)
end
section
/-! what is done, undone, held, told -/
theorem sd_mow {h : Hp} (d : dI h) (n : Nat) (x1 : Int32) (hn : 51539607552 ≤ n) : Ok (F_X12_mow n h x1) (fun q => dP h q.2) := by
  have f0 := cnR d.1
  have f1 := lit_0
  have j := jA.of d
  unfold F_X12_mow
  refine Ok.bind (sa_X12_isCell d.1 n h x1 (by omega) j) (fun q1 hq1 => ?_)
  obtain ⟨e1, y1⟩ := hq1
  rw [e1]
  refine Ok.eq (fun _ => Ok.ret (dP.rf d)) (fun c1 => ?_)
  have c2 := y1.2.2 (by omega)
  have nx := ncT c2.1
  refine Ok.chk (ixT (by omega) (by omega)) (fun c3 => ?_)
  refine Ok.ite (fun _ => Ok.ret (dP.rf d)) (fun _ => ?_)
  refine Ok.bind (sf_X12_copies d.1 n h (by omega) j) (fun q6 hq6 => ?_)
  refine Ok.bind (sa_X12_costsOf d.1 n q6 x1 (by omega) hq6.1 c2.1 c2.2) (fun q8 hq8 => ?_)
  refine Ok.pos c3 ?_
  have f25 := lit_25
  have a25 := adT 25 x1 (by omega) (by omega)
  have n25 := ncT (show 0 ≤ (25 + x1 : Int32).toInt by omega)
  refine Ok.chk (ixT (by omega) (by omega)) (fun c4 => ?_)
  have j1 : jA h (wrI q8.2 263 62 (hi q8.2 263 62 + q8.1)) := JA63g rfl hq8.1 (by decide) (fun _ q => absurd q (by decide))
  have j2 : jA h (wrI (wrI q8.2 263 62 (hi q8.2 263 62 + q8.1)) 263 (Int32.toNatClampNeg x1) 0) := JA63z rfl j1 (by omega) f1
  have j3 : jA h (wrI (wrI (wrI q8.2 263 62 (hi q8.2 263 62 + q8.1)) 263 (Int32.toNatClampNeg x1) 0) 263 (Int32.toNatClampNeg (25 + x1)) 0) := JA63 rfl j2 (fun q => by omega) (fun q => by omega) (fun q => by omega) (fun i il q q2 => by omega)
  refine Ok.bind (sf_X12_records d j3 (by omega)) (fun q12 hq12 => ?_)
  exact Ok.ret hq12
theorem sd_rope {h : Hp} (d : dI h) (n : Nat) (x1 x2 : Int32) (hn : 51539607552 ≤ n) : Ok (F_X12_rope n h x1 x2) (fun q => dP h q.2) := by
  have f0 := cnR d.1
  have f1 := lit_0
  have j := jA.of d
  unfold F_X12_rope
  refine Ok.bind (sf_X12_copies d.1 n h (by omega) j) (fun q1 hq1 => ?_)
  have k1 := dP.ask d hq1.1
  refine Ok.bind (sa_X12_isCell d.1 n q1 x1 (by omega) hq1.1) (fun q3 hq3 => ?_)
  obtain ⟨e3, y3⟩ := hq3
  rw [e3]
  refine Ok.eq (fun _ => Ok.ret k1) (fun c1 => ?_)
  have c2 := y3.2.2 (by omega)
  refine Ok.bind (sa_X12_isRoped d.1 n q1 x1 (by omega) hq1.1) (fun q6 hq6 => ?_)
  rw [hq6.1]
  refine Ok.ite (fun _ => Ok.ret k1) (fun _ => ?_)
  have jw (v : Int32) : jA h (wrI q1 263 50 v) := JA63g rfl hq1.1 (by decide) (fun q => absurd q (by decide))
  refine Ok.ite (fun _ => ?_) (fun _ => ?_)
  · refine Ok.bind (sf_X12_records d (jw _) (by omega)) (fun q10 hq10 => ?_)
    exact Ok.ret hq10
  · refine Ok.chk (ixT (by omega) (by omega)) (fun c3 => ?_)
    refine Ok.ite (fun _ => Ok.ret k1) (fun _ => ?_)
    refine Ok.bind (sa_X12_whoAt d.1 n q1 x1 (by omega) hq1.1) (fun q14 hq14 => ?_)
    rw [hq14.1]
    refine Ok.ite (fun _ => ?_) (fun _ => Ok.ret k1)
    refine Ok.bind (sf_X12_records d (jw _) (by omega)) (fun q17 hq17 => ?_)
    exact Ok.ret hq17
theorem sd_carry {h : Hp} (d : dI h) (n : Nat) (x1 x2 : Int32) (hn : 51539607552 ≤ n) : Ok (F_X12_carry n h x1 x2) (fun q => dP h q.2) := by
  have f0 := cnR d.1
  have g0 := d.1.2.2.2.1
  have f1 := lit_0
  have j := jA.of d
  unfold F_X12_carry
  refine Ok.bind (sf_X12_copies d.1 n h (by omega) j) (fun q1 hq1 => ?_)
  have k1 := dP.ask d hq1.1
  refine Ok.bind (sa_X12_isGoer d.1 n q1 x1 (by omega) hq1.1) (fun q3 hq3 => ?_)
  obtain ⟨e3, y3⟩ := hq3
  rw [e3]
  refine Ok.eq (fun _ => Ok.ret k1) (fun c1 => ?_)
  have c2 := y3.2.2 (by omega)
  refine Ok.bind (sa_X12_isCell d.1 n q1 x2 (by omega) hq1.1) (fun q6 hq6 => ?_)
  obtain ⟨e6, y6⟩ := hq6
  rw [e6]
  refine Ok.eq (fun _ => Ok.ret k1) (fun c3 => ?_)
  have c4 := y6.2.2 (by omega)
  refine Ok.bind (sa_X12_isRoped d.1 n q1 x2 (by omega) hq1.1) (fun q9 hq9 => ?_)
  rw [hq9.1]
  refine Ok.ite (fun _ => ?_) (fun _ => Ok.ret k1)
  have f51 := lit_51
  have a51 := adT 51 x1 (by omega) (by omega)
  have n51 := ncT (show 0 ≤ (51 + x1 : Int32).toInt by omega)
  refine Ok.chk (ixT (by omega) (by omega)) (fun c5 => ?_)
  refine Ok.ite (fun _ => Ok.ret k1) (fun _ => ?_)
  refine Ok.pos c5 ?_
  refine Ok.bind (sf_X12_records d (JA63g rfl hq1.1 (by omega) (fun _ _ => ⟨c4.1, c4.2⟩)) (by omega)) (fun q15 hq15 => ?_)
  exact Ok.ret hq15
theorem sd_beats {h : Hp} (d : dI h) (n : Nat) (x1 : Int32) (hn : 1717986918400 ≤ n) : Ok (F_X12_beats n h x1) (fun q => dP h q.2) := by
  have f1 := lit_0
  have j := jA.of d
  unfold F_X12_beats
  refine Ok.bind (sa_X12_isLong d.1 n h x1 (by omega) j) (fun q1 hq1 => ?_)
  rw [hq1.1]
  refine Ok.ite (fun _ => Ok.ret (dP.rf d)) (fun _ => ?_)
  refine Ok.ite (fun _ => Ok.ret (dP.rf d)) (fun _ => ?_)
  refine Ok.bind (sf_X12_copies d.1 n h (by omega) j) (fun q5 hq5 => ?_)
  refine Ok.bind (sf_X12_goes d.1 n q5 x1 (by omega) hq5.1) (fun q7 hq7 => ?_)
  refine Ok.bind (sf_X12_records d hq7.1 (by omega)) (fun q9 hq9 => ?_)
  exact Ok.ret hq9
/-- the row that goes on is another one: nothing else but how many can be undone has changed -/
theorem now_end {h q : Hp} (d : dI h) (e1 : ∀ a k, a ≠ 262 → ¬ (a = 226 ∧ k = 59) → hi q a k = hi h a k) (e2 : ∀ a k, hl q a k = hl h a k) {f : Nat → Int32} (e3 : ∀ k, k < 63 → hi q 262 k = f k) (r : rwO (cnN h) f) (o : ovO f) (u : 0 ≤ (hi q 226 59).toInt ∧ (hi q 226 59).toInt ≤ (hi h 226 59).toInt) : dP h q := by
  refine d.mk ⟨e1 226 18 (by decide) (by decide), fun a k h1 h2 => e1 a k (by omega) (by omega), fun k => e1 264 k (by decide) (by omega)⟩ (fun a k ha => ⟨e1 a k (by omega) (by omega), e2 a k⟩) ⟨e1 226 2 (by decide) (by decide), e1 226 17 (by decide) (by decide)⟩ (fun k => e2 233 k) (r.cg e3) (o.cg e3) (d.2.2.1.cg (fun k _ => e1 263 k (by decide) (by omega))) (d.2.2.2.1.cg (fun k _ => e1 263 k (by decide) (by omega))) (fun k => ?_) ?_ ?_ (fun v hv => ?_) (hdO.cg (fun k => e1 273 k (by decide) (by omega)) (fun k => e1 274 k (by decide) (by omega)) d.2.2.2.2.2.2)
  · rw [e1 265 k (by decide) (by omega)]
    exact d.2.2.2.2.1 k
  · rw [e1 226 65 (by decide) (by decide)]
    exact d.1.2.2.2.2.2.2.2.2.1
  · have := d.1.2.2.2.2.2.2.2.2.2
    omega
  · have z := d.2.2.2.2.2.1 v (by omega)
    exact ⟨z.1.cg (fun k _ => e1 266 _ (by decide) (by omega)), z.2.cg (fun k _ => e1 266 _ (by decide) (by omega))⟩
theorem sd_undo {h : Hp} (d : dI h) (n : Nat) (hn : 100 ≤ n) : Ok (F_X12_undo n h) (fun q => dP h q.2) := by
  have u := d.1.2.2.2.2.2.2.2.2.2
  have f0 := lit_0
  have n0 := ncT (show 0 ≤ (0 : Int32).toInt by omega)
  unfold F_X12_undo
  refine Ok.eq (fun _ => Ok.ret (dP.rf d)) (fun c1 => ?_)
  generalize ey : (hi h 226 59 - 1 : Int32) = y
  have f1 := lit_1
  have fy := sbG ey rfl lit_1 (by omega) (by omega)
  have ny := ncT (show 0 ≤ y.toInt by omega)
  generalize eg : wrI h 226 59 y = g
  have gU : hi g 226 59 = y := hiE eg
  refine cp_undo (hS := g) (by rw [gU]; omega) (by rw [gU]; omega) (fun q z => ?_) n g 0 (by omega) (by omega) (by rw [show Int32.toNatClampNeg 0 = 0 by omega]; exact cpI.zero _ _ _ _ g) (by omega)
  have z2 := d.2.2.2.2.2.1 (Int32.toNatClampNeg y) (by omega)
  refine now_end (q := q) d (fun a k n1 n2 => ?_) (fun a k => ?_) (f := hyO h 266 (Int32.toNatClampNeg y)) (fun k hk => ?_) z2.1 z2.2 ?_
  · rw [z.1.1 a k n1, ← eg, hi_wrI, if_neg n2]
  · rw [z.1.2 a k, ← eg]
    rfl
  · rw [z.2.1 k hk, gU, hiA eg 266 _ (by decide)]
    rfl
  · rw [z.1.1 226 59 (by decide), gU]
    omega
theorem sd_restore {h : Hp} (d : dI h) (n : Nat) (x1 : Int32) (hn : 100 ≤ n) : Ok (F_X12_restore n h x1) (fun q => dP h q.2) := by
  have u := d.1.2.2.2.2.2.2.2.2.2
  have f0 := lit_0
  have f2 := lit_2
  have n0 := ncT (show 0 ≤ (0 : Int32).toInt by omega)
  unfold F_X12_restore
  refine Ok.bind (sa_X12_in d.1 n h x1 0 2 (by omega) (jA.of d)) (fun q4 hq4 => ?_)
  obtain ⟨e4, y4⟩ := hq4
  rw [e4]
  refine Ok.eq (fun _ => Ok.ret (dP.rf d)) (fun c1 => ?_)
  have c2 := y4.2.2 (by omega)
  have nx := ncT (show 0 ≤ x1.toInt by omega)
  refine Ok.chk (ixT (by omega) (by omega)) (fun c3 => ?_)
  refine Ok.eq (fun _ => Ok.ret (dP.rf d)) (fun c4 => ?_)
  have z2 := d.2.2.2.2.2.2 (Int32.toNatClampNeg x1) (by omega) (by rw [f0] at c4; exact c4)
  refine cp_restore (hS := h) (by omega) (by omega) (fun q z => ?_) n h 0 (by omega) (by omega) (by rw [show Int32.toNatClampNeg 0 = 0 by omega]; exact cpI.zero _ _ _ _ h) (by omega)
  refine now_end (q := wrI q 226 59 0) d (fun a k n1 n2 => ?_) (fun a k => z.1.2 a k) (f := hyO h 274 (Int32.toNatClampNeg x1)) (fun k hk => ?_) z2.1 z2.2 ?_
  · rw [hi_wrI, if_neg n2, z.1.1 a k n1]
  · rw [hi_wrI, if_neg (fun w => absurd w.1 (by decide)), z.2.1 k hk]
    rfl
  · rw [hi_wrI, if_pos ⟨rfl, rfl⟩]
    omega
theorem vpb1 : (vp_nar .boolean (1 : Int32)) = 1 := by decide
theorem sd_hold {h : Hp} (d : dI h) (n : Nat) (x1 : Int32) (hn : 100 ≤ n) : Ok (F_X12_hold n h x1) (fun q => dP h q.2 ∧ q.1.toInt = if 0 ≤ x1.toInt ∧ x1.toInt ≤ 2 then 1 else 0) := by
  have f0 := lit_0
  have f2 := lit_2
  have f1 := lit_1
  have n0 := ncT (show 0 ≤ (0 : Int32).toInt by omega)
  unfold F_X12_hold
  refine Ok.bind (Ok.mono (P := fun q => q.2 = h ∧ ((q.1.toInt = 1 ∧ 0 ≤ x1.toInt ∧ x1.toInt ≤ 2) ∨ (q.1.toInt = 0 ∧ ¬ (0 ≤ x1.toInt ∧ x1.toInt ≤ 2)))) (Q := fun q => q.2 = h ∧ ((q.1.toInt = 1 ∧ 0 ≤ x1.toInt ∧ x1.toInt ≤ 2) ∨ (q.1.toInt = 0 ∧ ¬ (0 ≤ x1.toInt ∧ x1.toInt ≤ 2)))) ?_ (fun q hq => hq)) (fun q4 hq4 => ?_)
  · unfold F_X12_in
    refine Ok.lt (fun c => Ok.ret ⟨rfl, Or.inr ⟨lit_0, by omega⟩⟩) (fun c => ?_)
    exact Ok.lt (fun c2 => Ok.ret ⟨rfl, Or.inr ⟨lit_0, by omega⟩⟩) (fun c2 => Ok.ret ⟨rfl, Or.inl ⟨lit_1, by omega, by omega⟩⟩)
  · obtain ⟨e4, y4⟩ := hq4
    rw [e4]
    refine Ok.eq (fun c1 => ?_) (fun c1 => ?_)
    · refine Ok.ret ⟨dP.rf d, ?_⟩
      rw [if_neg (by omega)]
      exact lit_0
    · have c2 : 0 ≤ x1.toInt ∧ x1.toInt ≤ 2 := by omega
      rw [if_pos c2]
      have nx := ncT c2.1
      refine Ok.chk (ixT (by omega) (by omega)) (fun c3 => ?_)
      generalize eg : wrI h 273 (Int32.toNatClampNeg x1) 1 = g
      refine cp_hold (hS := g) c2.1 c2.2 (fun q z => ⟨?_, lit_1⟩) n g 0 (by omega) (by omega) (by rw [show Int32.toNatClampNeg 0 = 0 by omega]; exact cpI.zero _ _ _ _ g) (by omega)
      have e1 (a k : Nat) (n1 : a ≠ 274) (n2 : a ≠ 273) : hi q a k = hi h a k := by
        rw [z.1.1 a k n1, hiA eg a k n2]
      have kl (a k : Nat) : hl q a k = hl h a k := by
        rw [z.1.2 a k, ← eg]
        rfl
      refine d.mk ⟨e1 226 18 (by decide) (by decide), fun a k h1 h2 => e1 a k (by omega) (by omega), fun k => e1 264 k (by decide) (by decide)⟩ (fun a k ha => ⟨e1 a k (by omega) (by omega), kl a k⟩) ⟨e1 226 2 (by decide) (by decide), e1 226 17 (by decide) (by decide)⟩ (fun k => kl 233 k) (d.1.2.2.2.2.2.2.1.cg (fun k _ => e1 262 k (by decide) (by decide))) (d.1.2.2.2.2.2.2.2.1.cg (fun k _ => e1 262 k (by decide) (by decide))) (d.2.2.1.cg (fun k _ => e1 263 k (by decide) (by decide))) (d.2.2.2.1.cg (fun k _ => e1 263 k (by decide) (by decide))) (fun k => ?_) ?_ ?_ (hsO.cg (e1 226 59 (by decide) (by decide)) (fun k => e1 266 k (by decide) (by decide)) d.2.2.2.2.2.1) (fun s hs hh => ?_)
      · rw [e1 265 k (by decide) (by decide)]
        exact d.2.2.2.2.1 k
      · rw [e1 226 65 (by decide) (by decide)]
        exact d.1.2.2.2.2.2.2.2.2.1
      · rw [e1 226 59 (by decide) (by decide)]
        exact d.1.2.2.2.2.2.2.2.2.2
      · by_cases w : s = Int32.toNatClampNeg x1
        · subst w
          have e3 (k : Nat) (hk : k < 63) : hyO q 274 (Int32.toNatClampNeg x1) k = hi h 262 k := by
            show hi q 274 _ = _
            rw [z.2.1 k hk, hiA eg 262 k (by decide)]
          exact ⟨d.1.2.2.2.2.2.2.1.cg e3, d.1.2.2.2.2.2.2.2.1.cg e3⟩
        · have e3 (k : Nat) (hk : k < 63) : hyO q 274 s k = hyO h 274 s k := by
            show hi q 274 _ = hi h 274 _
            rw [z.2.2 _ (fun k' hk' => by show 63 * s + k ≠ 63 * Int32.toNatClampNeg x1 + k'; omega), hiA eg 274 _ (by decide)]
          have e5 : hi q 273 s = hi h 273 s := by
            rw [z.1.1 273 s (by decide), hiK eg 273 s w]
          rw [e5] at hh
          have z2 := d.2.2.2.2.2.2 s hs hh
          exact ⟨z2.1.cg e3, z2.2.cg e3⟩
/-- told ones: nothing else has changed -/
theorem told_end {h q : Hp} (d : dI h) (e1 : ∀ a k, a ≠ 271 → a ≠ 272 → ¬ (a = 226 ∧ k = 65) → hi q a k = hi h a k) (e2 : ∀ a k, hl q a k = hl h a k) (t : 0 ≤ (hi q 226 65).toInt ∧ (hi q 226 65).toInt ≤ 20) : dP h q := by
  refine d.mk ⟨e1 226 18 (by decide) (by decide) (by decide), fun a k h1 h2 => e1 a k (by omega) (by omega) (by omega), fun k => e1 264 k (by decide) (by decide) (by omega)⟩ (fun a k ha => ⟨e1 a k (by omega) (by omega) (by omega), e2 a k⟩) ⟨e1 226 2 (by decide) (by decide) (by decide), e1 226 17 (by decide) (by decide) (by decide)⟩ (fun k => e2 233 k) (d.1.2.2.2.2.2.2.1.cg (fun k _ => e1 262 k (by decide) (by decide) (by omega))) (d.1.2.2.2.2.2.2.2.1.cg (fun k _ => e1 262 k (by decide) (by decide) (by omega))) (d.2.2.1.cg (fun k _ => e1 263 k (by decide) (by decide) (by omega))) (d.2.2.2.1.cg (fun k _ => e1 263 k (by decide) (by decide) (by omega))) (fun k => ?_) t ?_ (hsO.cg (e1 226 59 (by decide) (by decide) (by decide)) (fun k => e1 266 k (by decide) (by decide) (by omega)) d.2.2.2.2.2.1) (hdO.cg (fun k => e1 273 k (by decide) (by decide) (by omega)) (fun k => e1 274 k (by decide) (by decide) (by omega)) d.2.2.2.2.2.2)
  · rw [e1 265 k (by decide) (by decide) (by omega)]
    exact d.2.2.2.2.1 k
  · rw [e1 226 59 (by decide) (by decide) (by decide)]
    exact d.1.2.2.2.2.2.2.2.2.2
theorem sd_forget {h : Hp} (d : dI h) (n : Nat) : Ok (F_X12_forget n h) (fun q => dP h q.2) := by
  have f0 := lit_0
  unfold F_X12_forget
  refine Ok.ret (told_end (q := wrI h 226 65 0) d (fun a k _ _ n3 => ?_) (fun a k => rfl) ?_)
  · rw [hi_wrI, if_neg n3]
  · rw [hi_wrI, if_pos ⟨rfl, rfl⟩]
    omega
theorem sd_tell {h : Hp} (d : dI h) (n : Nat) (x1 x2 : Int32) (hn : 100 ≤ n) : Ok (F_X12_tell n h x1 x2) (fun q => dP h q.2) := by
  have t := d.1.2.2.2.2.2.2.2.2.1
  have f20 := lit_20
  have f1 := lit_1
  unfold F_X12_tell
  refine Ok.eq (fun _ => Ok.ret (dP.rf d)) (fun c1 => ?_)
  refine Ok.bind (sa_X12_isTime d.1 n h x1 (by omega) (jA.of d)) (fun q2 hq2 => ?_)
  rw [hq2.1]
  refine Ok.ite (fun _ => Ok.ret (dP.rf d)) (fun _ => ?_)
  refine Ok.chk (ixT (by omega) (by omega)) (fun c2 => ?_)
  generalize eg : wrI h 271 (Int32.toNatClampNeg (hi h 226 65)) x1 = g
  have e1 : hi g 226 65 = hi h 226 65 := hiA eg 226 65 (by decide)
  rw [e1]
  refine Ok.pos c2 ?_
  generalize eg2 : wrI g 272 (Int32.toNatClampNeg (hi h 226 65)) x2 = g2
  have e2 : hi g2 226 65 = hi h 226 65 := (hiA eg2 226 65 (by decide)).trans e1
  rw [e2]
  have a1 := adT (hi h 226 65) 1 (by omega) (by omega)
  refine Ok.ret (told_end (q := wrI g2 226 65 (hi h 226 65 + 1)) d (fun a k n1 n2 n3 => ?_) (fun a k => ?_) ?_)
  · rw [hi_wrI, if_neg n3, hiA eg2 a k n2, hiA eg a k n1]
  · show hl g2 a k = _
    rw [← eg2, ← eg]
    rfl
  · rw [hi_wrI, if_pos ⟨rfl, rfl⟩]
    omega
end
section
/-! READING: the least steps -/
def tI (h : Hp) : Prop := (0 ≤ (hi h 226 11).toInt ∧ (hi h 226 11).toInt ≤ 400) ∧ 0 ≤ (hi h 226 13).toInt ∧ 0 ≤ (hi h 226 15).toInt
def pK (a k : Nat) : Bool := a == 226 && (k == 11 || k == 13 || k == 14 || k == 15 || k == 16)
/-- TOKEN, fault and worst have gone on, nothing else -/
def pR (h h' : Hp) : Prop := (∀ a k, pK a k = false → hi h' a k = hi h a k) ∧ (∀ a k, hl h' a k = hl h a k) ∧ tI h' ∧ (hi h 226 11).toInt ≤ (hi h' 226 11).toInt ∧ ((hi h' 226 13).toInt = 0 → (hi h 226 13).toInt = 0) ∧ ((hi h' 226 15).toInt = 0 → (hi h 226 15).toInt = 0)
theorem pR.rf {h : Hp} (t : tI h) : pR h h := ⟨fun _ _ _ => rfl, fun _ _ => rfl, t, Int.le_refl _, fun q => q, fun q => q⟩
theorem pR.tr {h0 h1 h2 : Hp} (a : pR h0 h1) (b : pR h1 h2) : pR h0 h2 := ⟨fun x k q => (b.1 x k q).trans (a.1 x k q), fun x k => (b.2.1 x k).trans (a.2.1 x k), b.2.2.1, Int.le_trans a.2.2.2.1 b.2.2.2.1, fun q => a.2.2.2.2.1 (b.2.2.2.2.1 q), fun q => a.2.2.2.2.2 (b.2.2.2.2.2 q)⟩
theorem pw {h : Hp} {k0 : Nat} {v : Int32} (pk : pK 226 k0 = true) {a k : Nat} (q : pK a k = false) : hi (wrI h 226 k0 v) a k = hi h a k := by
  rw [hi_wrI, if_neg (fun z => by rw [z.1, z.2, pk] at q; cases q)]
theorem w13 (h : Hp) (v : Int32) : hi (wrI h 226 13 v) 226 11 = hi h 226 11 ∧ hi (wrI h 226 13 v) 226 13 = v ∧ hi (wrI h 226 13 v) 226 15 = hi h 226 15 := by simp [hi_wrI]
theorem w14 (h : Hp) (v : Int32) : hi (wrI h 226 14 v) 226 11 = hi h 226 11 ∧ hi (wrI h 226 14 v) 226 13 = hi h 226 13 ∧ hi (wrI h 226 14 v) 226 15 = hi h 226 15 := by simp [hi_wrI]
theorem w15 (h : Hp) (v : Int32) : hi (wrI h 226 15 v) 226 11 = hi h 226 11 ∧ hi (wrI h 226 15 v) 226 13 = hi h 226 13 ∧ hi (wrI h 226 15 v) 226 15 = v := by simp [hi_wrI]
theorem w16 (h : Hp) (v : Int32) : hi (wrI h 226 16 v) 226 11 = hi h 226 11 ∧ hi (wrI h 226 16 v) 226 13 = hi h 226 13 ∧ hi (wrI h 226 16 v) 226 15 = hi h 226 15 := by simp [hi_wrI]
theorem w11 (h : Hp) (v : Int32) : hi (wrI h 226 11 v) 226 11 = v ∧ hi (wrI h 226 11 v) 226 13 = hi h 226 13 ∧ hi (wrI h 226 11 v) 226 15 = hi h 226 15 := by simp [hi_wrI]
theorem sr_is {n : Nat} {h : Hp} {x : Int32} (t : tI h) : Ok (F_X12_is n h x) (fun q => q.2 = h ∧ (0 ≤ q.1.toInt ∧ q.1.toInt ≤ 1) ∧ (q.1.toInt ≠ 0 → (hi h 226 13).toInt = 0 ∧ (hi h 229 (Int32.toNatClampNeg (hi h 226 11))).toInt = x.toInt)) := by
  have f0 := lit_0
  have f1 := lit_1
  have t1 := t.1
  unfold F_X12_is
  refine Ok.eq (fun c1 => ?_) (fun c1 => ?_)
  · refine Ok.chk (ixT (by omega) (by omega)) (fun c2 => ?_)
    refine Ok.eq (fun c3 => ?_) (fun c3 => ?_)
    · exact Ok.ret ⟨rfl, by show 0 ≤ (1 : Int32).toInt ∧ (1 : Int32).toInt ≤ 1; omega, fun _ => ⟨by omega, c3⟩⟩
    · exact Ok.ret ⟨rfl, by show 0 ≤ (0 : Int32).toInt ∧ (0 : Int32).toInt ≤ 1; omega, fun q => absurd lit_0 q⟩
  · exact Ok.ret ⟨rfl, by show 0 ≤ (0 : Int32).toInt ∧ (0 : Int32).toInt ≤ 1; omega, fun q => absurd lit_0 q⟩
theorem sr_fail {n : Nat} {h : Hp} {x : Int32} (t : tI h) (hx : 0 < x.toInt) : Ok (F_X12_fail n h x) (fun q => pR h q ∧ (hi q 226 13).toInt ≠ 0 ∧ hi q 226 11 = hi h 226 11) := by
  have f0 := lit_0
  have t1 := t.1
  have t2 := t.2.1
  have t3 := t.2.2
  unfold F_X12_fail
  refine Ok.le (fun c1 => ?_) (fun c1 => ?_)
  · obtain ⟨a1, a2, a3⟩ := w13 h x
    rw [a1]
    refine Ok.chk (ixT (by omega) (by omega)) (fun c2 => ?_)
    obtain ⟨b1, b2, b3⟩ := w14 (wrI h 226 13 x) (hi (wrI h 226 13 x) 230 (Int32.toNatClampNeg (hi h 226 11)))
    refine Ok.ret ⟨⟨fun a k q => by rw [pw (by decide) q, pw (by decide) q], fun _ _ => rfl, ?_, ?_, ?_, ?_⟩, ?_, by rw [b1, a1]⟩
    · show (0 ≤ (hi _ 226 11).toInt ∧ (hi _ 226 11).toInt ≤ 400) ∧ 0 ≤ (hi _ 226 13).toInt ∧ 0 ≤ (hi _ 226 15).toInt
      rw [b1, b2, b3, a1, a2, a3]
      omega
    · rw [b1, a1]; exact Int.le_refl _
    · intro q
      rw [b2, a2] at q
      omega
    · intro q
      rw [b3, a3] at q
      exact q
    · rw [b2, a2]; omega
  · exact Ok.ret ⟨pR.rf t, by omega, rfl⟩
theorem sr_goesOn {n : Nat} {h : Hp} (t : tI h) : Ok (F_X12_goesOn n h) (fun q => pR h q ∧ ((hi q 226 13).toInt = 0 → (hi h 226 13).toInt = 0 ∧ (hi q 226 11).toInt = (hi h 226 11).toInt + 1)) := by
  have t1 := t.1
  have t2 := t.2.1
  have t3 := t.2.2
  have f4 : (400 : Int32).toInt = 400 := by decide
  have f1 := lit_1
  unfold F_X12_goesOn
  refine Ok.eq (fun c1 => ?_) (fun c1 => ?_)
  · refine Ok.bind (sr_fail t (by decide)) (fun q2 hq2 => ?_)
    exact Ok.ret ⟨hq2.1, fun q => absurd q hq2.2.1⟩
  · have a := adT (hi h 226 11) 1 (by omega) (by omega)
    obtain ⟨b1, b2, b3⟩ := w11 h (hi h 226 11 + 1)
    refine Ok.ret ⟨⟨fun a k q => by rw [pw (by decide) q], fun _ _ => rfl, ?_, ?_, ?_, ?_⟩, fun q => ?_⟩
    · show (0 ≤ (hi _ 226 11).toInt ∧ (hi _ 226 11).toInt ≤ 400) ∧ 0 ≤ (hi _ 226 13).toInt ∧ 0 ≤ (hi _ 226 15).toInt
      rw [b1, b2, b3]
      omega
    · rw [b1]; omega
    · rw [b2]; exact fun q => q
    · rw [b3]; exact fun q => q
    · rw [b2] at q
      rw [b1]
      exact ⟨q, by omega⟩
theorem sr_must {n : Nat} {h : Hp} {x : Int32} (t : tI h) : Ok (F_X12_must n h x) (fun q => pR h q ∧ ((hi q 226 13).toInt = 0 → (hi h 226 13).toInt = 0 ∧ (hi q 226 11).toInt = (hi h 226 11).toInt + 1)) := by
  unfold F_X12_must
  refine Ok.bind (sr_is t) (fun q1 hq1 => ?_)
  rw [hq1.1]
  refine Ok.ite (fun _ => ?_) (fun _ => ?_)
  · refine Ok.bind (sr_fail t (by decide)) (fun q2 hq2 => ?_)
    exact Ok.ret ⟨hq2.1, fun q => absurd q hq2.2.1⟩
  · refine Ok.bind (sr_goesOn t) (fun q2 hq2 => ?_)
    exact Ok.ret hq2
theorem sr_wrong {n : Nat} {h : Hp} {x y : Int32} (t : tI h) (hx : 0 < x.toInt) (y0 : 0 ≤ y.toInt) (y1 : y.toInt ≤ 400) : Ok (F_X12_wrong n h x y) (fun q => pR h q ∧ hi q 226 11 = hi h 226 11 ∧ hi q 226 13 = hi h 226 13 ∧ ((hi q 226 13).toInt = 0 → (hi q 226 15).toInt ≠ 0)) := by
  have f0 := lit_0
  have t1 := t.1
  have t2 := t.2.1
  have t3 := t.2.2
  unfold F_X12_wrong
  refine Ok.chk (ixT (by omega) (by omega)) (fun c1 => ?_)
  refine Ok.lt (fun c2 => ?_) (fun c2 => ?_)
  · exact Ok.ret ⟨pR.rf t, rfl, rfl, fun q => by omega⟩
  · have wr : Ok (some (wrI (wrI h 226 15 x) 226 16 (hi h 230 (Int32.toNatClampNeg y)))) (fun q => pR h q ∧ hi q 226 11 = hi h 226 11 ∧ hi q 226 13 = hi h 226 13 ∧ ((hi q 226 13).toInt = 0 → (hi q 226 15).toInt ≠ 0)) := by
      obtain ⟨a1, a2, a3⟩ := w15 h x
      obtain ⟨b1, b2, b3⟩ := w16 (wrI h 226 15 x) (hi h 230 (Int32.toNatClampNeg y))
      refine Ok.ret ⟨⟨fun a k q => by rw [pw (by decide) q, pw (by decide) q], fun _ _ => rfl, ?_, ?_, ?_, ?_⟩, by rw [b1, a1], by rw [b2, a2], fun _ => by rw [b3, a3]; omega⟩
      · show (0 ≤ (hi _ 226 11).toInt ∧ (hi _ 226 11).toInt ≤ 400) ∧ 0 ≤ (hi _ 226 13).toInt ∧ 0 ≤ (hi _ 226 15).toInt
        rw [b1, b2, b3, a1, a2, a3]
        omega
      · rw [b1, a1]; exact Int.le_refl _
      · rw [b2, a2]; exact fun q => q
      · rw [b3, a3]; intro q; omega
    refine Ok.eq (fun _ => wr) (fun c3 => ?_)
    have sm : Ok (some h) (fun q => pR h q ∧ hi q 226 11 = hi h 226 11 ∧ hi q 226 13 = hi h 226 13 ∧ ((hi q 226 13).toInt = 0 → (hi q 226 15).toInt ≠ 0)) := Ok.ret ⟨pR.rf t, rfl, rfl, fun _ => by omega⟩
    refine Ok.ite (fun _ => sm) (fun _ => ?_)
    refine Ok.ite (fun _ => ?_) (fun _ => wr)
    exact Ok.ite (fun _ => wr) (fun _ => sm)
theorem sr_bounded {n : Nat} {h : Hp} {x y : Int32} (t : tI h) : Ok (F_X12_bounded n h x y) (fun q => pR h q.2 ∧ ((hi q.2 226 13).toInt = 0 → (hi h 226 13).toInt = 0 ∧ (hi q.2 226 11).toInt = (hi h 226 11).toInt + 1 ∧ ((hi q.2 226 15).toInt = 0 → x.toInt ≤ q.1.toInt ∧ q.1.toInt ≤ y.toInt))) := by
  have t1 := t.1
  unfold F_X12_bounded
  refine Ok.ite (fun _ => ?_) (fun _ => ?_)
  · refine Ok.bind (sr_fail t (by decide)) (fun q2 hq2 => ?_)
    exact Ok.ret ⟨hq2.1, fun q => absurd q hq2.2.1⟩
  · refine Ok.bind (sr_is t) (fun q4 hq4 => ?_)
    rw [hq4.1]
    refine Ok.ite (fun _ => ?_) (fun _ => ?_)
    · refine Ok.bind (sr_fail t (by decide)) (fun q2 hq2 => ?_)
      exact Ok.ret ⟨hq2.1, fun q => absurd q hq2.2.1⟩
    · refine Ok.chk (ixT (by omega) (by omega)) (fun c2 => ?_)
      have bad : Ok ((F_X12_wrong n h 5 (hi h 226 11)).bind (fun q9 => ((F_X12_goesOn n q9).bind (fun q11 => some ((hi h 231 (Int32.toNatClampNeg (hi h 226 11))), q11))))) (fun q => pR h q.2 ∧ ((hi q.2 226 13).toInt = 0 → (hi h 226 13).toInt = 0 ∧ (hi q.2 226 11).toInt = (hi h 226 11).toInt + 1 ∧ ((hi q.2 226 15).toInt = 0 → x.toInt ≤ q.1.toInt ∧ q.1.toInt ≤ y.toInt))) := by
        refine Ok.bind (sr_wrong t (by decide) t1.1 t1.2) (fun q9 hq9 => ?_)
        refine Ok.bind (sr_goesOn hq9.1.2.2.1) (fun q11 hq11 => ?_)
        refine Ok.ret ⟨hq9.1.tr hq11.1, fun q => ?_⟩
        have z := hq11.2 q
        refine ⟨hq9.1.2.2.2.2.1 z.1, by have := z.2; rw [hq9.2.1] at this; exact this, fun w => ?_⟩
        exact absurd (hq11.1.2.2.2.2.2 w) (hq9.2.2.2 z.1)
      refine Ok.lt (fun _ => bad) (fun c3 => ?_)
      refine Ok.le (fun c4 => ?_) (fun _ => bad)
      refine Ok.bind (sr_goesOn t) (fun q14 hq14 => ?_)
      refine Ok.ret ⟨hq14.1, fun q => ⟨(hq14.2 q).1, (hq14.2 q).2, fun _ => ⟨c3, c4⟩⟩⟩
theorem sr_room {n : Nat} {h : Hp} {x y : Int32} (t : tI h) : Ok (F_X12_roomFor n h x y) (fun q => pR h q ∧ ((hi q 226 13).toInt = 0 → (hi h 226 13).toInt = 0 ∧ x.toInt ≠ y.toInt ∧ (hi q 226 11).toInt = (hi h 226 11).toInt + 1)) := by
  have f0 := lit_0
  unfold F_X12_roomFor
  refine Ok.eq (fun _ => ?_) (fun c1 => ?_)
  · refine Ok.bind (sr_fail t (by decide)) (fun q5 hq5 => ?_)
    refine Ok.eq (fun c2 => ?_) (fun _ => Ok.ret ⟨hq5.1, fun q => absurd q hq5.2.1⟩)
    exact absurd (c2.trans f0) hq5.2.1
  · refine Ok.eq (fun _ => ?_) (fun c2 => Ok.ret ⟨pR.rf t, fun q => absurd (q.trans f0.symm) c2⟩)
    refine Ok.bind (sr_goesOn t) (fun q3 hq3 => ?_)
    exact Ok.ret ⟨hq3.1, fun q => ⟨(hq3.2 q).1, c1, (hq3.2 q).2⟩⟩
end
section
/-! READING: an expression. What waits: a level's orders, ( of each level -/
def wtO (f : Nat → Int32) : Nat → Option (Nat × Nat × Nat)
  | 0 => some (0, 0, 0)
  | n + 1 => match wtO f n with
    | none => none
    | some (k, O, P) => if (f n).toInt = 6 then some (0, O + 1, P) else if (f n).toInt = 8 ∨ (f n).toInt = 9 then (if k = 0 then some (1, O, P + 1) else none) else if (f n).toInt = 10 ∨ (f n).toInt = 15 then (if k ≤ 1 then some (2, O, P + 1) else none) else none
theorem wt_cg {f g : Nat → Int32} : ∀ n : Nat, (∀ i, i < n → f i = g i) → wtO f n = wtO g n := by
  intro n
  induction n with
  | zero => intro _; rfl
  | succ n ih =>
    intro h
    unfold wtO
    rw [ih (fun i hi2 => h i (by omega)), h n (by omega)]
theorem wt_pop {f : Nat → Int32} {n k O P : Nat} (h : wtO f (n + 1) = some (k, O, P)) : ∃ k' O' P', wtO f n = some (k', O', P') ∧ (((f n).toInt = 6 ∧ k = 0 ∧ O = O' + 1 ∧ P = P') ∨ (((f n).toInt = 8 ∨ (f n).toInt = 9) ∧ k = 1 ∧ k' = 0 ∧ O = O' ∧ P = P' + 1) ∨ (((f n).toInt = 10 ∨ (f n).toInt = 15) ∧ k = 2 ∧ k' ≤ 1 ∧ O = O' ∧ P = P' + 1)) := by
  unfold wtO at h
  cases e : wtO f n with
  | none => rw [e] at h; cases h
  | some q =>
    obtain ⟨k', O', P'⟩ := q
    rw [e] at h
    simp only at h
    refine ⟨k', O', P', rfl, ?_⟩
    by_cases c1 : (f n).toInt = 6
    · rw [if_pos c1] at h
      cases h
      exact Or.inl ⟨c1, rfl, rfl, rfl⟩
    · rw [if_neg c1] at h
      by_cases c2 : (f n).toInt = 8 ∨ (f n).toInt = 9
      · rw [if_pos c2] at h
        by_cases c3 : k' = 0
        · rw [if_pos c3] at h
          cases h
          exact Or.inr (Or.inl ⟨c2, rfl, c3, rfl, rfl⟩)
        · rw [if_neg c3] at h; cases h
      · rw [if_neg c2] at h
        by_cases c4 : (f n).toInt = 10 ∨ (f n).toInt = 15
        · rw [if_pos c4] at h
          by_cases c3 : k' ≤ 1
          · rw [if_pos c3] at h
            cases h
            exact Or.inr (Or.inr ⟨c4, rfl, c3, rfl, rfl⟩)
          · rw [if_neg c3] at h; cases h
        · rw [if_neg c4] at h; cases h
theorem wt_bd {f : Nat → Int32} : ∀ n k O P : Nat, wtO f n = some (k, O, P) → k ≤ 2 ∧ n ≤ 3 * O + k ∧ n = O + P := by
  intro n
  induction n with
  | zero =>
    intro k O P h
    unfold wtO at h
    cases h
    omega
  | succ n ih =>
    intro k O P h
    obtain ⟨k', O', P', e, q⟩ := wt_pop h
    have := ih k' O' P' e
    omega
theorem wt_o {f : Nat → Int32} {n k O P : Nat} (h : wtO f n = some (k, O, P)) (c : (f n).toInt = 6) : wtO f (n + 1) = some (0, O + 1, P) := by
  show (match wtO f n with | none => none | some (k, O, P) => _) = _
  rw [h]
  simp only
  rw [if_pos c]
theorem wt_w {f : Nat → Int32} {n O P : Nat} (h : wtO f n = some (0, O, P)) (c : (f n).toInt = 8 ∨ (f n).toInt = 9) : wtO f (n + 1) = some (1, O, P + 1) := by
  show (match wtO f n with | none => none | some (k, O, P) => _) = _
  rw [h]
  simp only
  rw [if_neg (by omega), if_pos c, if_pos trivial]
theorem wt_s {f : Nat → Int32} {n k O P : Nat} (h : wtO f n = some (k, O, P)) (hk : k ≤ 1) (c : (f n).toInt = 10 ∨ (f n).toInt = 15) : wtO f (n + 1) = some (2, O, P + 1) := by
  show (match wtO f n with | none => none | some (k, O, P) => _) = _
  rw [h]
  simp only
  rw [if_neg (by omega), if_neg (by omega), if_pos c, if_pos hk]
theorem dp_cg {f g : Nat → Int32} {s : Nat} : ∀ m : Nat, (∀ i, s ≤ i → i < s + m → f i = g i) → dpO f s m = dpO g s m := by
  intro m
  induction m with
  | zero => intro _; rfl
  | succ m ih =>
    intro h
    rw [dpO_succ, dpO_succ, ih (fun i h1 h2 => h i h1 (by omega)), h (s + m) (by omega) (by omega)]
theorem oc_ext {f fi g gi : Nat → Int32} {s e : Nat} {D : Int} (o : ocO f fi s e) (hD : dpO f s (e - s) = D) (c1 : ∀ i, s ≤ i → i < e → g i = f i) (c2 : ∀ i, s ≤ i → i < e → gi i = fi i) (he : e + 1 ≤ 840) (d0 : 0 ≤ D) (d1 : D ≤ 300) (x1 : 2 ≤ (g e).toInt → 2 ≤ D ∧ (g e).toInt ≤ 5) (x2 : (g e).toInt ≠ 0 → (g e).toInt < 2 → 0 ≤ (gi e).toInt ∧ (gi e).toInt < 9) : ocO g gi s (e + 1) ∧ dpO g s (e + 1 - s) = D + (if (g e).toInt < 2 then 1 else -1) := by
  have o1 := o.1
  have dq (m : Nat) (hm : s + m ≤ e) : dpO g s m = dpO f s m := dp_cg m (fun i h1 h2 => c1 i h1 (by omega))
  refine ⟨⟨by omega, he, fun m hm => ?_⟩, ?_⟩
  · rw [dq m (by omega)]
    by_cases z : s + m = e
    · rw [z, show m = e - s by omega, hD]
      exact ⟨d0, d1, x1, x2⟩
    · rw [c1 (s + m) (by omega) (by omega), c2 (s + m) (by omega) (by omega)]
      exact o.2.2 m (by omega)
  · rw [show e + 1 - s = (e - s) + 1 by omega, dpO_succ, dq _ (by omega), hD, show s + (e - s) = e by omega]
theorem oc_zero (f fi : Nat → Int32) {s : Nat} (h : s ≤ 840) : ocO f fi s s := ⟨Nat.le_refl s, h, fun m hm => by omega⟩
/-- what an expression may change -/
def eK (c0 a k : Nat) : Bool := pK a k || (a == 226 && (k == 12 || k == 45 || k == 49)) || a == 259 || ((a == 257 || a == 258) && (decide (c0 ≤ k) && decide (k < 420 * (c0 / 420) + 420)))
/-- orders are counted by TOKENS, from the side's window on -/
def bO (c0 : Nat) (hE : Hp) : Prop := (c0 : Int) ≤ 420 * ((c0 / 420 : Nat) : Int) + (hi hE 226 11).toInt ∧ c0 < 840
/-- where an expression stands: c orders, n that wait (of the level: k, of ( : O, of orders: P), D on the pile -/
def eC (hE : Hp) (c0 : Nat) (h : Hp) (c n k O P : Nat) (D : Int) : Prop :=
  ((∀ a x, eK c0 a x = false → hi h a x = hi hE a x) ∧ (∀ a x, hl h a x = hl hE a x)) ∧ tI h ∧ (((hi h 226 13).toInt = 0 → (hi hE 226 13).toInt = 0) ∧ ((hi h 226 15).toInt = 0 → (hi hE 226 15).toInt = 0) ∧ (hi hE 226 11).toInt ≤ (hi h 226 11).toInt) ∧ ((hi h 226 45).toInt = c ∧ (hi h 226 49).toInt = n ∧ (hi h 226 12).toInt = O ∧ O ≤ 7) ∧ wtO (hi h 259) n = some (k, O, P) ∧ (ocO (hi h 257) (hi h 258) c0 c ∧ dpO (hi h 257) c0 (c - c0) = D)
/-- no order without a TOKEN -/
def eA (hE : Hp) (c0 : Nat) (h : Hp) (c P : Nat) : Prop := ((hi h 226 13).toInt = 0 → (c : Int) + P ≤ c0 + (hi h 226 11).toInt - (hi hE 226 11).toInt) ∧ (c : Int) + P ≤ c0 + (hi h 226 11).toInt - (hi hE 226 11).toInt + 2
theorem eKp {c0 a k : Nat} (h : eK c0 a k = false) : pK a k = false := by
  unfold eK at h
  simp only [Bool.or_eq_false_iff] at h
  exact h.1.1.1
theorem eKq {c0 a k : Nat} (h : eK c0 a k = false) : pK a k = false ∧ ¬ (a = 226 ∧ (k = 12 ∨ k = 45 ∨ k = 49)) ∧ a ≠ 259 ∧ ¬ ((a = 257 ∨ a = 258) ∧ c0 ≤ k ∧ k < 420 * (c0 / 420) + 420) := by
  unfold eK at h
  simp only [Bool.or_eq_false_iff, Bool.and_eq_false_iff, beq_eq_false_iff_ne, decide_eq_false_iff_not] at h
  refine ⟨h.1.1.1, ?_, h.1.2, ?_⟩
  · have := h.1.1.2
    omega
  · have := h.2
    omega
theorem pK226 {a k : Nat} (h : a ≠ 226) : pK a k = false := by
  simp [pK, h]
section EI
variable {hE : Hp} {c0 : Nat} {h : Hp} {c n k O P : Nat} {D : Int}
theorem eC.p (e : eC hE c0 h c n k O P D) {h' : Hp} (p : pR h h') : eC hE c0 h' c n k O P D := by
  obtain ⟨⟨e1, e2⟩, e3, ⟨e4, e5, e6⟩, ⟨e7, e8, e9, e10⟩, e11, e12, e13⟩ := e
  obtain ⟨p1, p2, p3, p4, p5, p6⟩ := p
  have r (a : Nat) (ha : a ≠ 226) : hi h' a = hi h a := funext fun x => p1 a x (pK226 ha)
  refine ⟨⟨fun a x q => (p1 a x (eKp q)).trans (e1 a x q), fun a x => (p2 a x).trans (e2 a x)⟩, p3, ⟨fun q => e4 (p5 q), fun q => e5 (p6 q), by omega⟩, ⟨?_, ?_, ?_, e10⟩, ?_, ?_, ?_⟩
  · rw [p1 226 45 (by decide)]; exact e7
  · rw [p1 226 49 (by decide)]; exact e8
  · rw [p1 226 12 (by decide)]; exact e9
  · rw [r 259 (by decide)]; exact e11
  · rw [r 257 (by decide), r 258 (by decide)]; exact e12
  · rw [r 257 (by decide)]; exact e13
theorem eA.p (e : eA hE c0 h c P) {h' : Hp} (p : pR h h') : eA hE c0 h' c P := by
  have a := p.2.2.2.1
  refine ⟨fun q => ?_, by have := e.2; omega⟩
  have := e.1 (p.2.2.2.2.1 q)
  omega
theorem eC.cb (e : eC hE c0 h c n k O P D) (x : eA hE c0 h c P) (b : bO c0 hE) : (c ≤ 822 ∧ c < 420 * (c0 / 420) + 420) ∧ c0 ≤ c := by
  have t := e.2.1.1
  have a := x.2
  have b1 := b.1
  have b2 := b.2
  exact ⟨⟨by omega, by omega⟩, e.2.2.2.2.2.1.1⟩
/-- an order comes -/
theorem eC.emit (e : eC hE c0 h c n k O P D) (cb : c ≤ 830 ∧ c < 420 * (c0 / 420) + 420) {m : Nat} {x y : Int32} (d0 : 0 ≤ D) (d1 : D ≤ 300) (x1 : 2 ≤ x.toInt → 2 ≤ D ∧ x.toInt ≤ 5) (x2 : x.toInt ≠ 0 → x.toInt < 2 → 0 ≤ y.toInt ∧ y.toInt < 9) : Ok (F_X12_emit m h x y) (fun q => eC hE c0 q (c + 1) n k O P (D + (if x.toInt < 2 then 1 else -1)) ∧ hi q 226 11 = hi h 226 11 ∧ hi q 226 13 = hi h 226 13 ∧ (∀ z, hi q 229 z = hi h 229 z)) := by
  obtain ⟨⟨e1, e2⟩, e3, e4, ⟨e7, e8, e9, e10⟩, e11, e12, e13⟩ := e
  have o1 := e12.1
  have f1 := lit_1
  have nc := ncT (show 0 ≤ (hi h 226 45).toInt by omega)
  have ec : Int32.toNatClampNeg (hi h 226 45) = c := by omega
  unfold F_X12_emit
  refine Ok.chk (ixT (by omega) (by omega)) (fun c1 => ?_)
  rw [ec]
  generalize eg : wrI h 257 c x = g
  have g1 : hi g 226 45 = hi h 226 45 := hiA eg 226 45 (by decide)
  rw [g1]
  refine Ok.pos c1 ?_
  rw [ec]
  generalize eg2 : wrI g 258 c y = g2
  have g2' : hi g2 226 45 = hi h 226 45 := (hiA eg2 226 45 (by decide)).trans g1
  rw [g2']
  have a1 := adT (hi h 226 45) 1 (by omega) (by omega)
  generalize eg3 : wrI g2 226 45 (hi h 226 45 + 1) = g3
  have fr (a z : Nat) (n1 : ¬ (a = 257 ∧ z = c)) (n2 : ¬ (a = 258 ∧ z = c)) (n3 : ¬ (a = 226 ∧ z = 45)) : hi g3 a z = hi h a z := by
    rw [← eg3, hi_wrI, if_neg n3, ← eg2, hi_wrI, if_neg n2, ← eg, hi_wrI, if_neg n1]
  have v1 : hi g3 257 c = x := by
    rw [hiA eg3 257 c (by decide), hiA eg2 257 c (by decide)]
    exact hiE eg
  have v2 : hi g3 258 c = y := by
    rw [hiA eg3 258 c (by decide)]
    exact hiE eg2
  have z := oc_ext (g := hi g3 257) (gi := hi g3 258) e12 e13 (fun i _ h2 => fr 257 i (by omega) (by omega) (by omega)) (fun i _ h2 => fr 258 i (by omega) (by omega) (by omega)) (by omega) d0 d1 (by rw [v1]; exact x1) (by rw [v1, v2]; exact x2)
  rw [v1] at z
  have t11 := fr 226 11 (by omega) (by omega) (by omega)
  have t13 := fr 226 13 (by omega) (by omega) (by omega)
  have t15 := fr 226 15 (by omega) (by omega) (by omega)
  have h259 : hi g3 259 = hi h 259 := funext fun z => fr 259 z (by omega) (by omega) (by omega)
  refine Ok.ret ⟨⟨⟨fun a x q => ?_, fun a z => ?_⟩, ?_, ?_, ⟨?_, ?_, ?_, e10⟩, ?_, z.1, z.2⟩, t11, t13, fun z => fr 229 z (by omega) (by omega) (by omega)⟩
  · have w := eKq q
    rw [fr a x (by omega) (by omega) (by omega)]
    exact e1 a x q
  · rw [← e2 a z, ← eg3, ← eg2, ← eg]
    rfl
  · show (0 ≤ (hi g3 226 11).toInt ∧ (hi g3 226 11).toInt ≤ 400) ∧ 0 ≤ (hi g3 226 13).toInt ∧ 0 ≤ (hi g3 226 15).toInt
    rw [t11, t13, t15]
    exact e3
  · rw [t11, t13, t15]
    exact e4
  · rw [hiE eg3]
    omega
  · rw [fr 226 49 (by omega) (by omega) (by omega)]; exact e8
  · rw [fr 226 12 (by omega) (by omega) (by omega)]; exact e9
  · rw [h259]; exact e11
/-- what waits and how many ( are another -/
theorem eC.top (e : eC hE c0 h c n k O P D) {h' : Hp} {n' k' O' P' : Nat} (f : ∀ a z, ¬ (a = 226 ∧ (z = 12 ∨ z = 49)) → a ≠ 259 → hi h' a z = hi h a z) (l : ∀ a z, hl h' a z = hl h a z) (hn : (hi h' 226 49).toInt = n') (ho : (hi h' 226 12).toInt = O') (o7 : O' ≤ 7) (w : wtO (hi h' 259) n' = some (k', O', P')) : eC hE c0 h' c n' k' O' P' D := by
  obtain ⟨⟨e1, e2⟩, e3, e4, ⟨e7, e8, e9, e10⟩, e11, e12, e13⟩ := e
  have r (a : Nat) (h1 : a ≠ 226) (h2 : a ≠ 259) : hi h' a = hi h a := funext fun x => f a x (by omega) h2
  have t11 := f 226 11 (by decide) (by decide)
  have t13 := f 226 13 (by decide) (by decide)
  have t15 := f 226 15 (by decide) (by decide)
  refine ⟨⟨fun a x q => ?_, fun a z => (l a z).trans (e2 a z)⟩, ?_, ?_, ⟨?_, hn, ho, o7⟩, w, ?_, ?_⟩
  · have w := eKq q
    rw [f a x (by omega) w.2.2.1]
    exact e1 a x q
  · show (0 ≤ (hi h' 226 11).toInt ∧ (hi h' 226 11).toInt ≤ 400) ∧ 0 ≤ (hi h' 226 13).toInt ∧ 0 ≤ (hi h' 226 15).toInt
    rw [t11, t13, t15]
    exact e3
  · rw [t11, t13, t15]
    exact e4
  · rw [f 226 45 (by decide) (by decide)]; exact e7
  · rw [r 257 (by decide) (by decide), r 258 (by decide) (by decide)]; exact e12
  · rw [r 257 (by decide) (by decide)]; exact e13
theorem eA.eq {h' : Hp} (x : eA hE c0 h c P) (t : hi h' 226 11 = hi h 226 11) (f : hi h' 226 13 = hi h 226 13) {c' P' : Nat} (s : c' + P' ≤ c + P) : eA hE c0 h' c' P' := by
  unfold eA
  rw [t, f]
  refine ⟨fun q => ?_, ?_⟩
  · have := x.1 q
    omega
  · have := x.2
    omega
end EI
end
section
/-! READING: an expression, gone through -/
section EX
variable {hE : Hp} {c0 : Nat}
/-- one order that waits comes out -/
theorem out_one {h : Hp} {c n1 k O P : Nat} {m : Nat} (b : bO c0 hE) (e : eC hE c0 h c (n1 + 1) k O P ((P : Int) + 1)) (x : eA hE c0 h c P) {k1 P1 : Nat} (w : wtO (hi h 259) n1 = some (k1, O, P1)) (hP : P = P1 + 1) {v : Int32} (v0 : 2 ≤ v.toInt) (v1 : v.toInt ≤ 5) : Ok (F_X12_emit m (wrI h 226 49 (hi h 226 49 - 1)) v 0) (fun q => eC hE c0 q (c + 1) n1 k1 O P1 ((P1 : Int) + 1) ∧ eA hE c0 q (c + 1) P1 ∧ hi q 226 11 = hi h 226 11 ∧ hi q 226 13 = hi h 226 13 ∧ (∀ z, hi q 229 z = hi h 229 z)) := by
  have cb := e.cb x b
  have wb := wt_bd _ _ _ _ w
  have e49 := e.2.2.2.1.2.1
  have o7 := e.2.2.2.1.2.2.2
  have f1 := lit_1
  generalize ey : (hi h 226 49 - 1 : Int32) = y
  have fy := sbG ey rfl lit_1 (by omega) (by omega)
  generalize eg : wrI h 226 49 y = g
  have fr (a z : Nat) (q : ¬ (a = 226 ∧ (z = 12 ∨ z = 49))) (_ : a ≠ 259) : hi g a z = hi h a z := by
    rw [← eg, hi_wrI, if_neg (by omega)]
  have h259 : hi g 259 = hi h 259 := funext fun z => hiA eg 259 z (by decide)
  have e1 : eC hE c0 g c n1 k1 O P1 ((P : Int) + 1) := e.top fr (fun a z => by rw [← eg]; rfl) (by rw [hiE eg]; omega) (by rw [hiK eg 226 12 (by decide)]; exact e.2.2.2.1.2.2.1) o7 (by rw [h259]; exact w)
  refine (e1.emit (by omega) (by omega) (by omega) (fun _ => ⟨by omega, v1⟩) (fun _ q => by omega)).mono (fun q hq => ?_)
  obtain ⟨q1, q2, q3, q4⟩ := hq
  have r1 : hi g 226 11 = hi h 226 11 := fr 226 11 (by decide) (by decide)
  have r2 : hi g 226 13 = hi h 226 13 := fr 226 13 (by decide) (by decide)
  rw [if_neg (by omega)] at q1
  rw [show (P : Int) + 1 + -1 = (P1 : Int) + 1 by omega] at q1
  exact ⟨q1, x.eq (q2.trans r1) (q3.trans r2) (by omega), q2.trans r1, q3.trans r2, fun z => (q4 z).trans (fr 229 z (by omega) (by decide))⟩
set_option maxHeartbeats 4000000 in
theorem sr_out (b : bO c0 hE) {l1 : Int32} : ∀ m : Nat, ∀ (h : Hp) (c n k O P : Nat), eC hE c0 h c n k O P ((P : Int) + 1) → eA hE c0 h c P → n + 1 < m → Ok (W_X12_comesOut m 0 h l1) (fun q => ∃ c' n' k' P', eC hE c0 q c' n' k' O P' ((P' : Int) + 1) ∧ eA hE c0 q c' P' ∧ (l1.toInt = 0 → k' = 0) ∧ k' ≤ 1 ∧ hi q 226 11 = hi h 226 11 ∧ hi q 226 13 = hi h 226 13 ∧ (∀ z, hi q 229 z = hi h 229 z)) := by
  intro m
  induction m with
  | zero => intro h c n k O P e x d; omega
  | succ m ih =>
    intro h c n k O P e x d
    have f0 := lit_0
    have f1 := lit_1
    have e49 := e.2.2.2.1.2.1
    have o7 := e.2.2.2.1.2.2.2
    have w := e.2.2.2.2.1
    have wb := wt_bd _ _ _ _ w
    rw [u_X12_comesOut]
    refine Ok.pos rfl ?_
    refine Ok.le (fun c1 => ?_) (fun c1 => ?_)
    · have z : n = 0 := by omega
      have k0 : k = 0 := by
        rw [z] at w
        unfold wtO at w
        cases w
        rfl
      exact Ok.ret ⟨c, n, k, P, e, x, fun _ => k0, by omega, rfl, rfl, fun _ => rfl⟩
    · obtain ⟨n1, rfl⟩ : ∃ n1, n = n1 + 1 := ⟨n - 1, by omega⟩
      obtain ⟨k1, O1, P1, w1, w2⟩ := wt_pop w
      have g0 : (hi h 226 49 - 1 : Int32).toInt = n1 ∧ Int32.toNatClampNeg (hi h 226 49 - 1) = n1 := by
        generalize ey : (hi h 226 49 - 1 : Int32) = y
        have fy := sbG ey rfl lit_1 (by omega) (by omega)
        have ny := ncT (show 0 ≤ y.toInt by omega)
        exact ⟨by omega, by omega⟩
      refine Ok.chk (ixT (by rw [g0.1]; omega) (by rw [g0.1]; omega)) (fun c2 => ?_)
      rw [g0.2]
      have e6 := lit_6
      have e8 := lit_8
      have e9 := lit_9
      have e10 := lit_10
      have stay (hk : (hi h 259 n1).toInt = 6 ∨ (l1.toInt ≠ 0 ∧ ((hi h 259 n1).toInt = 8 ∨ (hi h 259 n1).toInt = 9))) : Ok (some h) (fun q => ∃ c' n' k' P', eC hE c0 q c' n' k' O P' ((P' : Int) + 1) ∧ eA hE c0 q c' P' ∧ (l1.toInt = 0 → k' = 0) ∧ k' ≤ 1 ∧ hi q 226 11 = hi h 226 11 ∧ hi q 226 13 = hi h 226 13 ∧ (∀ z, hi q 229 z = hi h 229 z)) := Ok.ret ⟨c, n1 + 1, k, P, e, x, fun q => by omega, by omega, rfl, rfl, fun _ => rfl⟩
      have go (v : Int32) (v0 : 2 ≤ v.toInt) (v1 : v.toInt ≤ 5) (nk : (hi h 259 n1).toInt ≠ 6) : Ok ((F_X12_emit m (wrI h 226 49 (hi h 226 49 - 1)) v 0).bind (fun q14 => W_X12_comesOut m 0 q14 l1)) (fun q => ∃ c' n' k' P', eC hE c0 q c' n' k' O P' ((P' : Int) + 1) ∧ eA hE c0 q c' P' ∧ (l1.toInt = 0 → k' = 0) ∧ k' ≤ 1 ∧ hi q 226 11 = hi h 226 11 ∧ hi q 226 13 = hi h 226 13 ∧ (∀ z, hi q 229 z = hi h 229 z)) := by
        have hO : O1 = O ∧ P = P1 + 1 := by omega
        rw [hO.1] at w1
        refine Ok.bind (out_one b e x w1 hO.2 v0 v1) (fun q hq => ?_)
        obtain ⟨a1, a2, a3, a4, a5⟩ := hq
        refine (ih q (c + 1) n1 k1 O P1 a1 a2 (by omega)).mono (fun r hr => ?_)
        obtain ⟨c', n', k', P', b1, b2, b3, b4, b5, b6, b7⟩ := hr
        exact ⟨c', n', k', P', b1, b2, b3, b4, b5.trans a3, b6.trans a4, fun z => (b7 z).trans (a5 z)⟩
      refine Ok.eq (fun c3 => stay (by omega)) (fun c3 => ?_)
      refine Ok.eq (fun c4 => ?_) (fun c4 => ?_)
      · refine Ok.ite (fun _ => go 2 (by decide) (by decide) (by omega)) (fun _ => ?_)
        refine Ok.ite (fun _ => go 3 (by decide) (by decide) (by omega)) (fun _ => ?_)
        exact Ok.ite (fun _ => go 4 (by decide) (by decide) (by omega)) (fun _ => go 5 (by decide) (by decide) (by omega))
      · refine Ok.eq (fun c5 => stay (by omega)) (fun c5 => ?_)
        refine Ok.eq (fun c6 => stay (by omega)) (fun c6 => ?_)
        refine Ok.ite (fun _ => go 2 (by decide) (by decide) (by omega)) (fun _ => ?_)
        refine Ok.ite (fun _ => go 3 (by decide) (by decide) (by omega)) (fun _ => ?_)
        exact Ok.ite (fun _ => go 4 (by decide) (by decide) (by omega)) (fun _ => go 5 (by decide) (by decide) (by omega))
theorem sr_unit {h : Hp} {c n k O P m : Nat} (b : bO c0 hE) (e : eC hE c0 h c n k O P (P : Int)) (x : eA hE c0 h c P) : Ok (F_X12_unit m h) (fun q => ((hi q 226 13).toInt = 0 → (hi h 226 13).toInt = 0 ∧ eC hE c0 q (c + 1) n k O P ((P : Int) + 1) ∧ eA hE c0 q (c + 1) P ∧ (hi q 226 11).toInt = (hi h 226 11).toInt + 1) ∧ ∃ c' D', eC hE c0 q c' n k O P D' ∧ eA hE c0 q c' P) := by
  have cb := e.cb x b
  have t := e.2.1
  have t1 := t.1
  have wb := wt_bd _ _ _ _ e.2.2.2.2.1
  have o7 := e.2.2.2.1.2.2.2
  have f0 := lit_0
  have fl : Ok ((F_X12_fail m h 1).bind (fun q9 => some q9)) (fun q => ((hi q 226 13).toInt = 0 → (hi h 226 13).toInt = 0 ∧ eC hE c0 q (c + 1) n k O P ((P : Int) + 1) ∧ eA hE c0 q (c + 1) P ∧ (hi q 226 11).toInt = (hi h 226 11).toInt + 1) ∧ ∃ c' D', eC hE c0 q c' n k O P D' ∧ eA hE c0 q c' P) := by
    refine Ok.bind (sr_fail t (by decide)) (fun q hq => ?_)
    exact Ok.ret ⟨fun z => absurd z hq.2.1, c, P, e.p hq.1, x.p hq.1⟩
  have em (u v : Int32) (hu : u.toInt = 0 ∨ (u.toInt = 1 ∧ 0 ≤ v.toInt ∧ v.toInt < 9)) (fz : (hi h 226 13).toInt = 0) : Ok ((F_X12_emit m h u v).bind (fun q16 => ((F_X12_goesOn m q16).bind (fun q18 => some q18)))) (fun q => ((hi q 226 13).toInt = 0 → (hi h 226 13).toInt = 0 ∧ eC hE c0 q (c + 1) n k O P ((P : Int) + 1) ∧ eA hE c0 q (c + 1) P ∧ (hi q 226 11).toInt = (hi h 226 11).toInt + 1) ∧ ∃ c' D', eC hE c0 q c' n k O P D' ∧ eA hE c0 q c' P) := by
    refine Ok.bind (e.emit (by omega) (by omega) (by omega) (fun q => by omega) (fun _ _ => by omega)) (fun q16 hq => ?_)
    obtain ⟨a1, a2, a3, a4⟩ := hq
    rw [if_pos (by omega)] at a1
    refine Ok.bind (sr_goesOn a1.2.1) (fun q18 hq18 => ?_)
    have z1 := a1.p hq18.1
    have xx := x.1 fz
    have mm := hq18.1.2.2.2.1
    rw [a2] at mm
    refine Ok.ret ⟨fun z => ⟨fz, z1, ⟨fun _ => ?_, ?_⟩, ?_⟩, c + 1, _, z1, ⟨fun z => ?_, ?_⟩⟩
    · have := (hq18.2 z).2
      rw [a2] at this
      omega
    · omega
    · have := (hq18.2 z).2
      rw [a2] at this
      exact this
    · have := (hq18.2 z).2
      rw [a2] at this
      omega
    · omega
  unfold F_X12_unit
  refine Ok.bind (sr_is t) (fun q1 hq1 => ?_)
  obtain ⟨e1, y1⟩ := hq1
  rw [e1]
  refine Ok.eq (fun c1 => ?_) (fun c1 => ?_)
  · refine Ok.eq (fun c2 => ?_) (fun _ => fl)
    refine Ok.chk (ixT (by omega) (by omega)) (fun c3 => ?_)
    have f33 : (33 : Int32).toInt = 33 := by decide
    have f41 := lit_41
    refine Ok.lt (fun _ => fl) (fun c4 => ?_)
    refine Ok.pos c3 ?_
    refine Ok.lt (fun _ => fl) (fun c5 => ?_)
    refine Ok.pos c3 ?_
    refine em 1 _ (Or.inr ⟨by decide, ?_⟩) (by omega)
    generalize ey : (hi h 229 (Int32.toNatClampNeg (hi h 226 11)) - 33 : Int32) = y
    have fy := sbG ey rfl f33 (by omega) (by omega)
    omega
  · have c2 := y1.2 (by omega)
    refine Ok.chk (ixT (by omega) (by omega)) (fun c3 => ?_)
    exact em 0 _ (Or.inl (by decide)) c2.1
end EX
end
section
/-! READING: an expression's loop -/
theorem tI_w {h : Hp} {k0 : Nat} {v : Int32} (t : tI h) (n1 : k0 ≠ 11) (n2 : k0 ≠ 13) (n3 : k0 ≠ 15) : tI (wrI h 226 k0 v) := by
  show (0 ≤ (hi _ 226 11).toInt ∧ (hi _ 226 11).toInt ≤ 400) ∧ 0 ≤ (hi _ 226 13).toInt ∧ 0 ≤ (hi _ 226 15).toInt
  rw [hi_wrI, if_neg (by omega), hi_wrI, if_neg (by omega), hi_wrI, if_neg (by omega)]
  exact t
theorem tI_a {h : Hp} {a k0 : Nat} {v : Int32} (t : tI h) (n1 : a ≠ 226) : tI (wrI h a k0 v) := by
  show (0 ≤ (hi _ 226 11).toInt ∧ (hi _ 226 11).toInt ≤ 400) ∧ 0 ≤ (hi _ 226 13).toInt ∧ 0 ≤ (hi _ 226 15).toInt
  rw [hi_wrI, if_neg (by omega), hi_wrI, if_neg (by omega), hi_wrI, if_neg (by omega)]
  exact t
theorem sr_is2 {n : Nat} {h : Hp} {x : Int32} (t : tI h) : Ok (F_X12_is n h x) (fun q => q.2 = h ∧ (0 ≤ q.1.toInt ∧ q.1.toInt ≤ 1) ∧ (q.1.toInt ≠ 0 → (hi h 229 (Int32.toNatClampNeg (hi h 226 11))).toInt = x.toInt) ∧ (q.1.toInt = 0 → (hi h 226 13).toInt = 0 → (hi h 229 (Int32.toNatClampNeg (hi h 226 11))).toInt ≠ x.toInt)) := by
  have f0 := lit_0
  have f1 := lit_1
  have t1 := t.1
  unfold F_X12_is
  refine Ok.eq (fun c1 => ?_) (fun c1 => ?_)
  · refine Ok.chk (ixT (by omega) (by omega)) (fun c2 => ?_)
    refine Ok.eq (fun c3 => ?_) (fun c3 => ?_)
    · exact Ok.ret ⟨rfl, by show 0 ≤ (1 : Int32).toInt ∧ (1 : Int32).toInt ≤ 1; omega, fun _ => c3, fun q => absurd (lit_1.symm.trans q) (by decide)⟩
    · exact Ok.ret ⟨rfl, by show 0 ≤ (0 : Int32).toInt ∧ (0 : Int32).toInt ≤ 1; omega, fun q => absurd lit_0 q, fun _ _ => c3⟩
  · exact Ok.ret ⟨rfl, by show 0 ≤ (0 : Int32).toInt ∧ (0 : Int32).toInt ≤ 1; omega, fun q => absurd lit_0 q, fun _ q => absurd (q.trans lit_0.symm) c1⟩
def exR (hE : Hp) (c0 : Nat) (q : Hp) : Prop := ∃ (c n k O P : Nat) (D : Int), eC hE c0 q c n k O P D ∧ eA hE c0 q c P ∧ ((hi q 226 13).toInt = 0 → O = 0 ∧ (hi hE 226 11).toInt + 1 ≤ (hi q 226 11).toInt)
section EL
variable {hE : Hp} {c0 : Nat}
theorem eC.topp {h : Hp} {c n k O P : Nat} {D : Int} (e : eC hE c0 h c n k O P D) {h' : Hp} {n' k' O' P' : Nat} (f : ∀ a z, pK a z = false → ¬ (a = 226 ∧ (z = 12 ∨ z = 49)) → a ≠ 259 → hi h' a z = hi h a z) (l : ∀ a z, hl h' a z = hl h a z) (t : tI h') (m1 : (hi h' 226 13).toInt = 0 → (hi h 226 13).toInt = 0) (m2 : (hi h' 226 15).toInt = 0 → (hi h 226 15).toInt = 0) (m3 : (hi h 226 11).toInt ≤ (hi h' 226 11).toInt) (hn : (hi h' 226 49).toInt = n') (ho : (hi h' 226 12).toInt = O') (o7 : O' ≤ 7) (w : wtO (hi h' 259) n' = some (k', O', P')) : eC hE c0 h' c n' k' O' P' D := by
  obtain ⟨⟨e1, e2⟩, e3, ⟨e4, e5, e6⟩, ⟨e7, e8, e9, e10⟩, e11, e12, e13⟩ := e
  have r (a : Nat) (h1 : a ≠ 226) (h2 : a ≠ 259) : hi h' a = hi h a := funext fun x => f a x (pK226 h1) (by omega) h2
  refine ⟨⟨fun a x q => ?_, fun a z => (l a z).trans (e2 a z)⟩, t, ⟨fun q => e4 (m1 q), fun q => e5 (m2 q), by omega⟩, ⟨?_, hn, ho, o7⟩, w, ?_, ?_⟩
  · have w := eKq q
    rw [f a x w.1 (by omega) w.2.2.1]
    exact e1 a x q
  · rw [f 226 45 (by decide) (by decide) (by decide)]; exact e7
  · rw [r 257 (by decide) (by decide), r 258 (by decide) (by decide)]; exact e12
  · rw [r 257 (by decide) (by decide)]; exact e13
/-- a ( waits -/
theorem push_o {h q : Hp} {c n k O P : Nat} {D : Int} (e : eC hE c0 h c n k O P D) (o6 : O ≤ 6) (p : pR (wrI h 226 12 (hi h 226 12 + 1)) q) : ∃ g, g = wrI (wrI q 259 (Int32.toNatClampNeg (hi q 226 49)) 6) 226 49 (hi (wrI q 259 (Int32.toNatClampNeg (hi q 226 49)) 6) 226 49 + 1) ∧ eC hE c0 g c (n + 1) 0 (O + 1) P D ∧ hi g 226 11 = hi q 226 11 ∧ hi g 226 13 = hi q 226 13 := by
  refine ⟨_, rfl, ?_⟩
  have f1 := lit_1
  have f6 := lit_6
  obtain ⟨p1, p2, p3, p4, p5, p6⟩ := p
  have e49 := e.2.2.2.1.2.1
  have e12 := e.2.2.2.1.2.2.1
  have w := e.2.2.2.2.1
  have wb := wt_bd _ _ _ _ w
  have r49 : hi q 226 49 = hi h 226 49 := (p1 226 49 (by decide)).trans (by rw [hi_wrI, if_neg (by decide)])
  have r12 : hi q 226 12 = hi h 226 12 + 1 := (p1 226 12 (by decide)).trans (by rw [hi_wrI, if_pos ⟨rfl, rfl⟩])
  have nq := ncT (show 0 ≤ (hi q 226 49).toInt by rw [r49]; omega)
  rw [r49] at nq
  have en : Int32.toNatClampNeg (hi q 226 49) = n := by rw [r49]; omega
  rw [en]
  generalize eg : wrI q 259 n 6 = g
  have g49 : hi g 226 49 = hi h 226 49 := (hiA eg 226 49 (by decide)).trans r49
  rw [g49]
  have a1 := adT (hi h 226 49) 1 (by omega) (by omega)
  have a2 := adT (hi h 226 12) 1 (by omega) (by omega)
  generalize eg2 : wrI g 226 49 (hi h 226 49 + 1) = g2
  have s (k : Nat) (hk : k ≠ 49) : hi g2 226 k = hi q 226 k := (hiK eg2 226 k hk).trans (hiA eg 226 k (by decide))
  have w11 : hi (wrI h 226 12 (hi h 226 12 + 1)) 226 11 = hi h 226 11 := by rw [hi_wrI, if_neg (by decide)]
  have w13 : hi (wrI h 226 12 (hi h 226 12 + 1)) 226 13 = hi h 226 13 := by rw [hi_wrI, if_neg (by decide)]
  have w15 : hi (wrI h 226 12 (hi h 226 12 + 1)) 226 15 = hi h 226 15 := by rw [hi_wrI, if_neg (by decide)]
  rw [w11] at p4
  rw [w13] at p5
  rw [w15] at p6
  refine ⟨e.topp (fun a z q1 q2 q3 => ?_) (fun a z => ?_) ?_ (by rw [s 13 (by decide)]; exact p5) (by rw [s 15 (by decide)]; exact p6) (by rw [s 11 (by decide)]; exact p4) ?_ ?_ (by omega) ?_, s 11 (by decide), s 13 (by decide)⟩
  · rw [← eg2, hi_wrI, if_neg (by omega), ← eg, hi_wrI, if_neg (by omega), p1 a z q1, hi_wrI, if_neg (by omega)]
  · rw [← eg2, ← eg]
    exact p2 a z
  · rw [← eg2]
    exact tI_w (by rw [← eg]; exact tI_a p3 (by decide)) (by decide) (by decide) (by decide)
  · rw [hiE eg2]; omega
  · rw [s 12 (by decide), r12]; omega
  · have h259 (i : Nat) (hh : i ≠ n) : hi g2 259 i = hi h 259 i := by
      rw [hiA eg2 259 i (by decide), hiK eg 259 i hh, p1 259 i (pK226 (by decide)), hi_wrI, if_neg (fun z => absurd z.1 (by decide))]
    refine wt_o (k := k) (O := O) (P := P) ?_ ?_
    · rw [wt_cg n (fun i il => h259 i (by omega))]
      exact w
    · rw [hiA eg2 259 n (by decide), hiE eg]
      exact lit_6
/-- an order waits -/
theorem push_op {h : Hp} {c n k O P : Nat} {D : Int} (e : eC hE c0 h c n k O P D) {v : Int32} {k2 : Nat} (hv : ((v.toInt = 8 ∨ v.toInt = 9) ∧ k = 0 ∧ k2 = 1) ∨ ((v.toInt = 10 ∨ v.toInt = 15) ∧ k ≤ 1 ∧ k2 = 2)) : eC hE c0 (wrI (wrI h 259 (Int32.toNatClampNeg (hi h 226 49)) v) 226 49 (hi (wrI h 259 (Int32.toNatClampNeg (hi h 226 49)) v) 226 49 + 1)) c (n + 1) k2 O (P + 1) D := by
  have f1 := lit_1
  have e49 := e.2.2.2.1.2.1
  have o7 := e.2.2.2.1.2.2.2
  have w := e.2.2.2.2.1
  have wb := wt_bd _ _ _ _ w
  have nq := ncT (show 0 ≤ (hi h 226 49).toInt by omega)
  have en : Int32.toNatClampNeg (hi h 226 49) = n := by omega
  rw [en]
  generalize eg : wrI h 259 n v = g
  have g49 : hi g 226 49 = hi h 226 49 := hiA eg 226 49 (by decide)
  rw [g49]
  have a1 := adT (hi h 226 49) 1 (by omega) (by omega)
  generalize eg2 : wrI g 226 49 (hi h 226 49 + 1) = g2
  have h259 (i : Nat) (hh : i ≠ n) : hi g2 259 i = hi h 259 i := by
    rw [hiA eg2 259 i (by decide), hiK eg 259 i hh]
  have hv9 : hi g2 259 n = v := by
    rw [hiA eg2 259 n (by decide), hiE eg]
  refine e.top (fun a z q1 q2 => ?_) (fun a z => by rw [← eg2, ← eg]; rfl) (by rw [hiE eg2]; omega) ?_ o7 ?_
  · rw [← eg2, hi_wrI, if_neg (by omega), ← eg, hi_wrI, if_neg (by omega)]
  · rw [hiK eg2 226 12 (by decide), hiA eg 226 12 (by decide)]
    exact e.2.2.2.1.2.2.1
  · have w' : wtO (hi g2 259) n = some (k, O, P) := by
      rw [wt_cg n (fun i il => h259 i (by omega))]
      exact w
    rcases hv with ⟨v1, v2, v3⟩ | ⟨v1, v2, v3⟩
    · subst v2 v3
      exact wt_w w' (by rw [hv9]; exact v1)
    · subst v3
      exact wt_s w' v2 (by rw [hv9]; exact v1)
/-- a ( is closed -/
theorem pop_o {h : Hp} {c n O P : Nat} {D : Int} (e : eC hE c0 h c n 0 O P D) (o1 : 1 ≤ O) : ∃ k1, eC hE c0 (wrI (wrI h 226 49 (hi h 226 49 - 1)) 226 12 (hi (wrI h 226 49 (hi h 226 49 - 1)) 226 12 - 1)) c (n - 1) k1 (O - 1) P D := by
  have f1 := lit_1
  have e49 := e.2.2.2.1.2.1
  have e12 := e.2.2.2.1.2.2.1
  have o7 := e.2.2.2.1.2.2.2
  have w := e.2.2.2.2.1
  have wb := wt_bd _ _ _ _ w
  obtain ⟨n1, rfl⟩ : ∃ n1, n = n1 + 1 := ⟨n - 1, by omega⟩
  obtain ⟨k1, O1, P1, w1, w2⟩ := wt_pop w
  have w3 : O = O1 + 1 ∧ P = P1 := by omega
  refine ⟨k1, ?_⟩
  have r12 : hi (wrI h 226 49 (hi h 226 49 - 1)) 226 12 = hi h 226 12 := by rw [hi_wrI, if_neg (by decide)]
  rw [r12]
  generalize ey : (hi h 226 49 - 1 : Int32) = y
  have fy := sbG ey rfl lit_1 (by omega) (by omega)
  generalize ez : (hi h 226 12 - 1 : Int32) = z
  have fz := sbG ez rfl lit_1 (by omega) (by omega)
  generalize eg : wrI h 226 49 y = g
  generalize eg2 : wrI g 226 12 z = g2
  have h259 : hi g2 259 = hi h 259 := funext fun i => (hiA eg2 259 i (by decide)).trans (hiA eg 259 i (by decide))
  refine e.top (fun a z q1 q2 => ?_) (fun a z => by rw [← eg2, ← eg]; rfl) (by rw [hiK eg2 226 49 (by decide), hiE eg]; omega) (by rw [hiE eg2]; omega) (by omega) ?_
  · rw [← eg2, hi_wrI, if_neg (by omega), ← eg, hi_wrI, if_neg (by omega)]
  · rw [h259, Nat.add_sub_cancel, w3.1, Nat.add_sub_cancel, w3.2]
    exact w1
def exS (m : Nat) (r : Int) (h : Hp) : Prop := ((hi h 226 13).toInt = 0 → (100 : Int) + 4 * (402 - (hi h 226 11).toInt) + r < m) ∧ (100 : Int) + 4 * (401 - (hi h 226 11).toInt) + r < m
set_option maxRecDepth 100000 in
set_option maxHeartbeats 8000000 in
theorem sr_exl (b : bO c0 hE) {l1 l2 : Int32} (z1 : l1.toInt = 0) : ∀ n : Nat, (∀ (h : Hp) (c w k O P : Nat) (l2 : Int32), l2.toInt ≠ 0 → eC hE c0 h c w k O P (P : Int) → eA hE c0 h c P → ((hi h 226 13).toInt = 0 → O ≤ 6) → exS n 3 h → Ok (W_X12_expression n 12 h l1 l2) (fun q => exR hE c0 q)) ∧ (∀ (h : Hp) (c w k O P : Nat) (l2 : Int32), l2.toInt ≠ 0 → eC hE c0 h c w k O P (P : Int) → eA hE c0 h c P → ((hi h 226 13).toInt = 0 → O ≤ 6) → exS n 2 h → Ok (W_X12_expression n 23 h l1 l2) (fun q => exR hE c0 q)) ∧ (∀ (h : Hp) (c w k O P : Nat) (l2 : Int32), l2.toInt ≠ 0 → eC hE c0 h c w k O P ((P : Int) + 1) → eA hE c0 h c P → ((hi h 226 13).toInt = 0 → O ≤ 6) → ((hi h 226 13).toInt = 0 → (hi hE 226 11).toInt + 1 ≤ (hi h 226 11).toInt) → exS n 1 h → Ok (W_X12_expression n 96 h l1 l2) (fun q => exR hE c0 q)) := by
  intro n
  induction n with
  | zero =>
    refine ⟨?_, ?_, ?_⟩
    · intro h c w k O P l2 l e x o s
      have := e.2.1.1
      have := s.2
      exfalso; omega
    · intro h c w k O P l2 l e x o s
      have := e.2.1.1
      have := s.2
      exfalso; omega
    · intro h c w k O P l2 l e x o p s
      have := e.2.1.1
      have := s.2
      exfalso; omega
  | succ n ih =>
    have f0 := lit_0
    have f1 := lit_1
    refine ⟨?_, ?_, ?_⟩
    · intro h c w k O P l2 l e x o s
      have s1 := s.1
      have s2 := s.2
      rw [u_X12_expression]
      refine Ok.pos rfl ?_
      refine Ok.eq (fun q => by omega) (fun _ => ?_)
      refine Ok.eq (fun c1 => ?_) (fun c1 => ?_)
      · exact ih.2.1 h c w k O P l2 l e x o ⟨fun q => by have := s1 q; omega, by omega⟩
      · exact Ok.ret ⟨c, w, k, O, P, _, e, x, fun q => absurd (q.trans f0.symm) c1⟩
    · intro h c w k O P l2 l e x o s
      have s1 := s.1
      have s2 := s.2
      have t := e.2.1
      have t1 := t.1
      have wb := wt_bd _ _ _ _ e.2.2.2.2.1
      have o7 := e.2.2.2.1.2.2.2
      have e12 := e.2.2.2.1.2.2.1
      have e49 := e.2.2.2.1.2.1
      rw [u_X12_expression]
      refine Ok.neg (by decide) ?_
      refine Ok.pos rfl ?_
      refine Ok.bind (sr_is t) (fun q3 hq3 => ?_)
      obtain ⟨e3, y3⟩ := hq3
      rw [e3]
      refine Ok.eq (fun c1 => ?_) (fun c1 => ?_)
      · refine Ok.bind (sr_unit b e x) (fun q6 hq6 => ?_)
        refine Ok.le (fun c2 => ?_) (fun c2 => ?_)
        · have tq : 0 ≤ (hi q6 226 13).toInt := by
            obtain ⟨c', D', a1, -⟩ := hq6.2
            exact a1.2.1.2.1
          obtain ⟨hz, a1, a2, a3⟩ := hq6.1 (by omega)
          have em := e.2.2.1.2.2
          exact ih.2.2 q6 (c + 1) w k O P l2 l a1 a2 (fun _ => o hz) (fun _ => by omega) ⟨fun _ => by have := s1 hz; omega, by have := s1 hz; omega⟩
        · obtain ⟨c', D', a1, a2⟩ := hq6.2
          exact Ok.ret ⟨c', w, k, O, P, D', a1, a2, fun q => by omega⟩
      · have c2 := y3.2 (by omega)
        have o6 := o c2.1
        have s1 := s1 c2.1
        have xx := x.1 c2.1
        have fin (h1 : Hp) (p0 : pR h h1) (m13 : (hi h1 226 13).toInt = 0 → O ≤ 5) : Ok ((F_X12_goesOn n (wrI h1 226 12 (hi h1 226 12 + 1))).bind (fun q15 => (if ixOK (hi q15 226 49) 64 = true then W_X12_expression n 23 (wrI (wrI q15 259 (Int32.toNatClampNeg (hi q15 226 49)) 6) 226 49 ((hi (wrI q15 259 (Int32.toNatClampNeg (hi q15 226 49)) 6) 226 49) + 1)) l1 l2 else none))) (fun q => exR hE c0 q) := by
          have e' := e.p p0
          have x' := x.p p0
          refine Ok.bind (sr_goesOn (tI_w e'.2.1 (by decide) (by decide) (by decide))) (fun q hq => ?_)
          obtain ⟨g, g1, g2, g3, g4⟩ := push_o e' o6 hq.1
          have w13 : hi (wrI h1 226 12 (hi h1 226 12 + 1)) 226 13 = hi h1 226 13 := by rw [hi_wrI, if_neg (by decide)]
          have w11 : hi (wrI h1 226 12 (hi h1 226 12 + 1)) 226 11 = hi h1 226 11 := by rw [hi_wrI, if_neg (by decide)]
          have r49 : (hi q 226 49).toInt = w := by
            rw [hq.1.1 226 49 (by decide), hi_wrI, if_neg (by decide)]
            exact e'.2.2.2.1.2.1
          refine Ok.chk (ixT (by omega) (by omega)) (fun c4 => ?_)
          rw [← g1]
          have hq2 := hq.2
          rw [w13, w11] at hq2
          have m1 := hq.1.2.2.2.1
          rw [w11] at m1
          have m0 := p0.2.2.2.1
          have x2 := x'.2
          refine ih.2.1 g c (w + 1) 0 (O + 1) P l2 l g2 ⟨fun q' => ?_, ?_⟩ (fun q' => ?_) ⟨fun q' => ?_, ?_⟩
          · rw [g4] at q'
            rw [g3]
            have := x'.1 (hq2 q').1
            omega
          · rw [g3]; omega
          · rw [g4] at q'
            have := m13 (hq2 q').1
            omega
          · rw [g4] at q'
            rw [g3]
            have := (hq2 q').2
            omega
          · rw [g3]; omega
        have f6 := lit_6
        refine Ok.eq (fun c3 => ?_) (fun c3 => ?_)
        · refine Ok.bind (sr_fail t (by decide)) (fun q13 hq13 => ?_)
          exact fin q13 hq13.1 (fun q => absurd q hq13.2.1)
        · exact fin h (pR.rf t) (fun _ => by omega)
    · intro h c w k O P l2 l e x o p s
      have s1 := s.1
      have s2 := s.2
      have t := e.2.1
      have t1 := t.1
      have wb := wt_bd _ _ _ _ e.2.2.2.2.1
      have o7 := e.2.2.2.1.2.2.2
      have e12 := e.2.2.2.1.2.2.1
      have e49 := e.2.2.2.1.2.1
      have outs (h1 : Hp) (e1 : eC hE c0 h1 c w k O P ((P : Int) + 1)) (x1 : eA hE c0 h1 c P) (v : Int32) : Ok (F_X12_comesOut n h1 v) (fun q => ∃ c' n' k' P', eC hE c0 q c' n' k' O P' ((P' : Int) + 1) ∧ eA hE c0 q c' P' ∧ (v.toInt = 0 → k' = 0) ∧ k' ≤ 1 ∧ hi q 226 11 = hi h1 226 11 ∧ hi q 226 13 = hi h1 226 13 ∧ (∀ z, hi q 229 z = hi h1 229 z)) := by
        unfold F_X12_comesOut
        exact sr_out b n h1 c w k O P e1 x1 (by omega)
      have TE : Ok (if ((hi h 226 12) : Int32) ≤ (l1 : Int32) then ((F_X12_comesOut n h 0).bind (fun q155 => some q155)) else ((F_X12_fail n h 1).bind (fun q157 => ((F_X12_comesOut n q157 0).bind (fun q159 => some q159))))) (fun q => exR hE c0 q) := by
        refine Ok.le (fun c1 => ?_) (fun c1 => ?_)
        · refine Ok.bind (outs h e x 0) (fun q hq => ?_)
          obtain ⟨c', n', k', P', a1, a2, a3, a4, a5, a6, a7⟩ := hq
          refine Ok.ret ⟨c', n', k', O, P', _, a1, a2, fun z => ⟨by omega, ?_⟩⟩
          rw [a6] at z
          rw [a5]
          exact p z
        · refine Ok.bind (sr_fail t (by decide)) (fun q1 hq1 => ?_)
          refine Ok.bind (outs q1 (e.p hq1.1) (x.p hq1.1) 0) (fun q hq => ?_)
          obtain ⟨c', n', k', P', a1, a2, a3, a4, a5, a6, a7⟩ := hq
          refine Ok.ret ⟨c', n', k', O, P', _, a1, a2, fun z => ?_⟩
          rw [a6] at z
          exact absurd z hq1.2.1
      have TM (fz : (hi h 226 13).toInt = 0) (kd : (hi h 229 (Int32.toNatClampNeg (hi h 226 11))).toInt = 8 ∨ (hi h 229 (Int32.toNatClampNeg (hi h 226 11))).toInt = 9 ∨ (hi h 229 (Int32.toNatClampNeg (hi h 226 11))).toInt = 10 ∨ (hi h 229 (Int32.toNatClampNeg (hi h 226 11))).toInt = 15) : Ok ((F_X12_is n h 10).bind (fun q162 => (if (q162.1 : Int32) = 0 then ((F_X12_is n q162.2 15).bind (fun q171 => (if (q171.1 : Int32) = 0 then ((F_X12_comesOut n q171.2 0).bind (fun q174 => (if ixOK (hi q174 226 11) 403 = true then (if ixOK (hi q174 226 49) 64 = true then ((F_X12_goesOn n (wrI (wrI q174 259 (Int32.toNatClampNeg (hi q174 226 49)) (hi q174 229 (Int32.toNatClampNeg (hi q174 226 11)))) 226 49 ((hi (wrI q174 259 (Int32.toNatClampNeg (hi q174 226 49)) (hi q174 229 (Int32.toNatClampNeg (hi q174 226 11)))) 226 49) + 1))).bind (fun q178 => W_X12_expression n 12 q178 l1 1)) else none) else none))) else ((F_X12_comesOut n q171.2 1).bind (fun q180 => (if ixOK (hi q180 226 11) 403 = true then (if ixOK (hi q180 226 49) 64 = true then ((F_X12_goesOn n (wrI (wrI q180 259 (Int32.toNatClampNeg (hi q180 226 49)) (hi q180 229 (Int32.toNatClampNeg (hi q180 226 11)))) 226 49 ((hi (wrI q180 259 (Int32.toNatClampNeg (hi q180 226 49)) (hi q180 229 (Int32.toNatClampNeg (hi q180 226 11)))) 226 49) + 1))).bind (fun q184 => W_X12_expression n 12 q184 l1 1)) else none) else none)))))) else ((F_X12_comesOut n q162.2 1).bind (fun q165 => (if ixOK (hi q165 226 11) 403 = true then (if ixOK (hi q165 226 49) 64 = true then ((F_X12_goesOn n (wrI (wrI q165 259 (Int32.toNatClampNeg (hi q165 226 49)) (hi q165 229 (Int32.toNatClampNeg (hi q165 226 11)))) 226 49 ((hi (wrI q165 259 (Int32.toNatClampNeg (hi q165 226 49)) (hi q165 229 (Int32.toNatClampNeg (hi q165 226 11)))) 226 49) + 1))).bind (fun q169 => W_X12_expression n 12 q169 l1 1)) else none) else none)))))) (fun q => exR hE c0 q) := by
        have s1 := s1 fz
        have kk (v : Int32) (hv : (v.toInt = 0 ∧ ((hi h 229 (Int32.toNatClampNeg (hi h 226 11))).toInt = 8 ∨ (hi h 229 (Int32.toNatClampNeg (hi h 226 11))).toInt = 9)) ∨ (v.toInt ≠ 0 ∧ ((hi h 229 (Int32.toNatClampNeg (hi h 226 11))).toInt = 10 ∨ (hi h 229 (Int32.toNatClampNeg (hi h 226 11))).toInt = 15))) : Ok ((F_X12_comesOut n h v).bind (fun q142 => (if ixOK (hi q142 226 11) 403 = true then (if ixOK (hi q142 226 49) 64 = true then ((F_X12_goesOn n (wrI (wrI q142 259 (Int32.toNatClampNeg (hi q142 226 49)) (hi q142 229 (Int32.toNatClampNeg (hi q142 226 11)))) 226 49 ((hi (wrI q142 259 (Int32.toNatClampNeg (hi q142 226 49)) (hi q142 229 (Int32.toNatClampNeg (hi q142 226 11)))) 226 49) + 1))).bind (fun q146 => W_X12_expression n 12 q146 l1 1)) else none) else none))) (fun q => exR hE c0 q) := by
          refine Ok.bind (outs h e x v) (fun q hq => ?_)
          obtain ⟨c', n', k', P', a1, a2, a3, a4, a5, a6, a7⟩ := hq
          have wb' := wt_bd _ _ _ _ a1.2.2.2.2.1
          have q49 := a1.2.2.2.1.2.1
          have tq := a1.2.1.1
          refine Ok.chk (ixT (by omega) (by omega)) (fun c4 => ?_)
          refine Ok.chk (ixT (by omega) (by omega)) (fun c5 => ?_)
          have kd' : hi q 229 (Int32.toNatClampNeg (hi q 226 11)) = hi h 229 (Int32.toNatClampNeg (hi h 226 11)) := by rw [a7, a5]
          have ex : ∃ k2, (((hi q 229 (Int32.toNatClampNeg (hi q 226 11))).toInt = 8 ∨ (hi q 229 (Int32.toNatClampNeg (hi q 226 11))).toInt = 9) ∧ k' = 0 ∧ k2 = 1) ∨ (((hi q 229 (Int32.toNatClampNeg (hi q 226 11))).toInt = 10 ∨ (hi q 229 (Int32.toNatClampNeg (hi q 226 11))).toInt = 15) ∧ k' ≤ 1 ∧ k2 = 2) := by
            rw [kd']
            rcases hv with ⟨v1, v2⟩ | ⟨v1, v2⟩
            · exact ⟨1, Or.inl ⟨v2, a3 v1, rfl⟩⟩
            · exact ⟨2, Or.inr ⟨v2, a4, rfl⟩⟩
          obtain ⟨k2, hk2⟩ := ex
          have e2 := push_op a1 hk2
          have x2 := a2.1 (by rw [a6]; exact fz)
          generalize eg : wrI (wrI q 259 (Int32.toNatClampNeg (hi q 226 49)) (hi q 229 (Int32.toNatClampNeg (hi q 226 11)))) 226 49 (hi (wrI q 259 (Int32.toNatClampNeg (hi q 226 49)) (hi q 229 (Int32.toNatClampNeg (hi q 226 11)))) 226 49 + 1) = g at e2
          have g11 : hi g 226 11 = hi h 226 11 := by
            rw [← eg, hi_wrI, if_neg (by decide), hi_wrI, if_neg (fun z => absurd z.1 (by decide))]
            exact a5
          have g13 : hi g 226 13 = hi h 226 13 := by
            rw [← eg, hi_wrI, if_neg (by decide), hi_wrI, if_neg (fun z => absurd z.1 (by decide))]
            exact a6
          rw [a5] at x2
          refine Ok.bind (sr_goesOn e2.2.1) (fun q6 hq6 => ?_)
          have e3 := e2.p hq6.1
          have m1 := hq6.1.2.2.2.1
          have h2 := hq6.2
          rw [g11] at m1 h2
          rw [g13] at h2
          rw [show (P' : Int) + 1 = ((P' + 1 : Nat) : Int) by omega] at e3
          refine ih.1 q6 c' (n' + 1) k2 O (P' + 1) 1 (by decide) e3 ⟨fun z => ?_, by omega⟩ (fun _ => o fz) ⟨fun z => ?_, by omega⟩
          · have := (h2 z).2
            omega
          · have := (h2 z).2
            omega
        refine Ok.bind (sr_is2 t) (fun q1 hq1 => ?_)
        obtain ⟨i1, j1⟩ := hq1
        rw [i1]
        have f10 := lit_10
        have f15 : (15 : Int32).toInt = 15 := by decide
        refine Ok.eq (fun d1 => ?_) (fun d1 => ?_)
        · refine Ok.bind (sr_is2 t) (fun q2 hq2 => ?_)
          obtain ⟨i2, j2⟩ := hq2
          rw [i2]
          refine Ok.eq (fun d2 => ?_) (fun d2 => ?_)
          · exact kk 0 (Or.inl ⟨f0, by have u1 := j1.2.2 (by omega) fz; have u2 := j2.2.2 (by omega) fz; omega⟩)
          · exact kk 1 (Or.inr ⟨by decide, by have := j2.2.1 (by omega); omega⟩)
        · exact kk 1 (Or.inr ⟨by decide, by have := j1.2.1 (by omega); omega⟩)
      have CH : Ok ((F_X12_is n h 8).bind (fun q21 => (if (q21.1 : Int32) = 0 then ((F_X12_is n q21.2 9).bind (fun q56 => (if (q56.1 : Int32) = 0 then ((F_X12_is n q56.2 10).bind (fun q91 => (if (q91.1 : Int32) = 0 then ((F_X12_is n q91.2 15).bind (fun q126 => (if (q126.1 : Int32) = 0 then (if (0 : Int32) = 0 then (if ((hi q126.2 226 12) : Int32) ≤ (l1 : Int32) then ((F_X12_comesOut n q126.2 0).bind (fun q155 => some q155)) else ((F_X12_fail n q126.2 1).bind (fun q157 => ((F_X12_comesOut n q157 0).bind (fun q159 => some q159))))) else ((F_X12_is n q126.2 10).bind (fun q130 => (if (q130.1 : Int32) = 0 then ((F_X12_is n q130.2 15).bind (fun q139 => (if (q139.1 : Int32) = 0 then ((F_X12_comesOut n q139.2 0).bind (fun q142 => (if ixOK (hi q142 226 11) 403 = true then (if ixOK (hi q142 226 49) 64 = true then ((F_X12_goesOn n (wrI (wrI q142 259 (Int32.toNatClampNeg (hi q142 226 49)) (hi q142 229 (Int32.toNatClampNeg (hi q142 226 11)))) 226 49 ((hi (wrI q142 259 (Int32.toNatClampNeg (hi q142 226 49)) (hi q142 229 (Int32.toNatClampNeg (hi q142 226 11)))) 226 49) + 1))).bind (fun q146 => W_X12_expression n 12 q146 l1 0)) else none) else none))) else ((F_X12_comesOut n q139.2 1).bind (fun q148 => (if ixOK (hi q148 226 11) 403 = true then (if ixOK (hi q148 226 49) 64 = true then ((F_X12_goesOn n (wrI (wrI q148 259 (Int32.toNatClampNeg (hi q148 226 49)) (hi q148 229 (Int32.toNatClampNeg (hi q148 226 11)))) 226 49 ((hi (wrI q148 259 (Int32.toNatClampNeg (hi q148 226 49)) (hi q148 229 (Int32.toNatClampNeg (hi q148 226 11)))) 226 49) + 1))).bind (fun q152 => W_X12_expression n 12 q152 l1 0)) else none) else none)))))) else ((F_X12_comesOut n q130.2 1).bind (fun q133 => (if ixOK (hi q133 226 11) 403 = true then (if ixOK (hi q133 226 49) 64 = true then ((F_X12_goesOn n (wrI (wrI q133 259 (Int32.toNatClampNeg (hi q133 226 49)) (hi q133 229 (Int32.toNatClampNeg (hi q133 226 11)))) 226 49 ((hi (wrI q133 259 (Int32.toNatClampNeg (hi q133 226 49)) (hi q133 229 (Int32.toNatClampNeg (hi q133 226 11)))) 226 49) + 1))).bind (fun q137 => W_X12_expression n 12 q137 l1 0)) else none) else none))))))) else (if (1 : Int32) = 0 then (if ((hi q126.2 226 12) : Int32) ≤ (l1 : Int32) then ((F_X12_comesOut n q126.2 0).bind (fun q187 => some q187)) else ((F_X12_fail n q126.2 1).bind (fun q189 => ((F_X12_comesOut n q189 0).bind (fun q191 => some q191))))) else ((F_X12_is n q126.2 10).bind (fun q162 => (if (q162.1 : Int32) = 0 then ((F_X12_is n q162.2 15).bind (fun q171 => (if (q171.1 : Int32) = 0 then ((F_X12_comesOut n q171.2 0).bind (fun q174 => (if ixOK (hi q174 226 11) 403 = true then (if ixOK (hi q174 226 49) 64 = true then ((F_X12_goesOn n (wrI (wrI q174 259 (Int32.toNatClampNeg (hi q174 226 49)) (hi q174 229 (Int32.toNatClampNeg (hi q174 226 11)))) 226 49 ((hi (wrI q174 259 (Int32.toNatClampNeg (hi q174 226 49)) (hi q174 229 (Int32.toNatClampNeg (hi q174 226 11)))) 226 49) + 1))).bind (fun q178 => W_X12_expression n 12 q178 l1 1)) else none) else none))) else ((F_X12_comesOut n q171.2 1).bind (fun q180 => (if ixOK (hi q180 226 11) 403 = true then (if ixOK (hi q180 226 49) 64 = true then ((F_X12_goesOn n (wrI (wrI q180 259 (Int32.toNatClampNeg (hi q180 226 49)) (hi q180 229 (Int32.toNatClampNeg (hi q180 226 11)))) 226 49 ((hi (wrI q180 259 (Int32.toNatClampNeg (hi q180 226 49)) (hi q180 229 (Int32.toNatClampNeg (hi q180 226 11)))) 226 49) + 1))).bind (fun q184 => W_X12_expression n 12 q184 l1 1)) else none) else none)))))) else ((F_X12_comesOut n q162.2 1).bind (fun q165 => (if ixOK (hi q165 226 11) 403 = true then (if ixOK (hi q165 226 49) 64 = true then ((F_X12_goesOn n (wrI (wrI q165 259 (Int32.toNatClampNeg (hi q165 226 49)) (hi q165 229 (Int32.toNatClampNeg (hi q165 226 11)))) 226 49 ((hi (wrI q165 259 (Int32.toNatClampNeg (hi q165 226 49)) (hi q165 229 (Int32.toNatClampNeg (hi q165 226 11)))) 226 49) + 1))).bind (fun q169 => W_X12_expression n 12 q169 l1 1)) else none) else none)))))))))) else (if (1 : Int32) = 0 then (if ((hi q91.2 226 12) : Int32) ≤ (l1 : Int32) then ((F_X12_comesOut n q91.2 0).bind (fun q120 => some q120)) else ((F_X12_fail n q91.2 1).bind (fun q122 => ((F_X12_comesOut n q122 0).bind (fun q124 => some q124))))) else ((F_X12_is n q91.2 10).bind (fun q95 => (if (q95.1 : Int32) = 0 then ((F_X12_is n q95.2 15).bind (fun q104 => (if (q104.1 : Int32) = 0 then ((F_X12_comesOut n q104.2 0).bind (fun q107 => (if ixOK (hi q107 226 11) 403 = true then (if ixOK (hi q107 226 49) 64 = true then ((F_X12_goesOn n (wrI (wrI q107 259 (Int32.toNatClampNeg (hi q107 226 49)) (hi q107 229 (Int32.toNatClampNeg (hi q107 226 11)))) 226 49 ((hi (wrI q107 259 (Int32.toNatClampNeg (hi q107 226 49)) (hi q107 229 (Int32.toNatClampNeg (hi q107 226 11)))) 226 49) + 1))).bind (fun q111 => W_X12_expression n 12 q111 l1 1)) else none) else none))) else ((F_X12_comesOut n q104.2 1).bind (fun q113 => (if ixOK (hi q113 226 11) 403 = true then (if ixOK (hi q113 226 49) 64 = true then ((F_X12_goesOn n (wrI (wrI q113 259 (Int32.toNatClampNeg (hi q113 226 49)) (hi q113 229 (Int32.toNatClampNeg (hi q113 226 11)))) 226 49 ((hi (wrI q113 259 (Int32.toNatClampNeg (hi q113 226 49)) (hi q113 229 (Int32.toNatClampNeg (hi q113 226 11)))) 226 49) + 1))).bind (fun q117 => W_X12_expression n 12 q117 l1 1)) else none) else none)))))) else ((F_X12_comesOut n q95.2 1).bind (fun q98 => (if ixOK (hi q98 226 11) 403 = true then (if ixOK (hi q98 226 49) 64 = true then ((F_X12_goesOn n (wrI (wrI q98 259 (Int32.toNatClampNeg (hi q98 226 49)) (hi q98 229 (Int32.toNatClampNeg (hi q98 226 11)))) 226 49 ((hi (wrI q98 259 (Int32.toNatClampNeg (hi q98 226 49)) (hi q98 229 (Int32.toNatClampNeg (hi q98 226 11)))) 226 49) + 1))).bind (fun q102 => W_X12_expression n 12 q102 l1 1)) else none) else none)))))))))) else (if (1 : Int32) = 0 then (if ((hi q56.2 226 12) : Int32) ≤ (l1 : Int32) then ((F_X12_comesOut n q56.2 0).bind (fun q85 => some q85)) else ((F_X12_fail n q56.2 1).bind (fun q87 => ((F_X12_comesOut n q87 0).bind (fun q89 => some q89))))) else ((F_X12_is n q56.2 10).bind (fun q60 => (if (q60.1 : Int32) = 0 then ((F_X12_is n q60.2 15).bind (fun q69 => (if (q69.1 : Int32) = 0 then ((F_X12_comesOut n q69.2 0).bind (fun q72 => (if ixOK (hi q72 226 11) 403 = true then (if ixOK (hi q72 226 49) 64 = true then ((F_X12_goesOn n (wrI (wrI q72 259 (Int32.toNatClampNeg (hi q72 226 49)) (hi q72 229 (Int32.toNatClampNeg (hi q72 226 11)))) 226 49 ((hi (wrI q72 259 (Int32.toNatClampNeg (hi q72 226 49)) (hi q72 229 (Int32.toNatClampNeg (hi q72 226 11)))) 226 49) + 1))).bind (fun q76 => W_X12_expression n 12 q76 l1 1)) else none) else none))) else ((F_X12_comesOut n q69.2 1).bind (fun q78 => (if ixOK (hi q78 226 11) 403 = true then (if ixOK (hi q78 226 49) 64 = true then ((F_X12_goesOn n (wrI (wrI q78 259 (Int32.toNatClampNeg (hi q78 226 49)) (hi q78 229 (Int32.toNatClampNeg (hi q78 226 11)))) 226 49 ((hi (wrI q78 259 (Int32.toNatClampNeg (hi q78 226 49)) (hi q78 229 (Int32.toNatClampNeg (hi q78 226 11)))) 226 49) + 1))).bind (fun q82 => W_X12_expression n 12 q82 l1 1)) else none) else none)))))) else ((F_X12_comesOut n q60.2 1).bind (fun q63 => (if ixOK (hi q63 226 11) 403 = true then (if ixOK (hi q63 226 49) 64 = true then ((F_X12_goesOn n (wrI (wrI q63 259 (Int32.toNatClampNeg (hi q63 226 49)) (hi q63 229 (Int32.toNatClampNeg (hi q63 226 11)))) 226 49 ((hi (wrI q63 259 (Int32.toNatClampNeg (hi q63 226 49)) (hi q63 229 (Int32.toNatClampNeg (hi q63 226 11)))) 226 49) + 1))).bind (fun q67 => W_X12_expression n 12 q67 l1 1)) else none) else none)))))))))) else (if (1 : Int32) = 0 then (if ((hi q21.2 226 12) : Int32) ≤ (l1 : Int32) then ((F_X12_comesOut n q21.2 0).bind (fun q50 => some q50)) else ((F_X12_fail n q21.2 1).bind (fun q52 => ((F_X12_comesOut n q52 0).bind (fun q54 => some q54))))) else ((F_X12_is n q21.2 10).bind (fun q25 => (if (q25.1 : Int32) = 0 then ((F_X12_is n q25.2 15).bind (fun q34 => (if (q34.1 : Int32) = 0 then ((F_X12_comesOut n q34.2 0).bind (fun q37 => (if ixOK (hi q37 226 11) 403 = true then (if ixOK (hi q37 226 49) 64 = true then ((F_X12_goesOn n (wrI (wrI q37 259 (Int32.toNatClampNeg (hi q37 226 49)) (hi q37 229 (Int32.toNatClampNeg (hi q37 226 11)))) 226 49 ((hi (wrI q37 259 (Int32.toNatClampNeg (hi q37 226 49)) (hi q37 229 (Int32.toNatClampNeg (hi q37 226 11)))) 226 49) + 1))).bind (fun q41 => W_X12_expression n 12 q41 l1 1)) else none) else none))) else ((F_X12_comesOut n q34.2 1).bind (fun q43 => (if ixOK (hi q43 226 11) 403 = true then (if ixOK (hi q43 226 49) 64 = true then ((F_X12_goesOn n (wrI (wrI q43 259 (Int32.toNatClampNeg (hi q43 226 49)) (hi q43 229 (Int32.toNatClampNeg (hi q43 226 11)))) 226 49 ((hi (wrI q43 259 (Int32.toNatClampNeg (hi q43 226 49)) (hi q43 229 (Int32.toNatClampNeg (hi q43 226 11)))) 226 49) + 1))).bind (fun q47 => W_X12_expression n 12 q47 l1 1)) else none) else none)))))) else ((F_X12_comesOut n q25.2 1).bind (fun q28 => (if ixOK (hi q28 226 11) 403 = true then (if ixOK (hi q28 226 49) 64 = true then ((F_X12_goesOn n (wrI (wrI q28 259 (Int32.toNatClampNeg (hi q28 226 49)) (hi q28 229 (Int32.toNatClampNeg (hi q28 226 11)))) 226 49 ((hi (wrI q28 259 (Int32.toNatClampNeg (hi q28 226 49)) (hi q28 229 (Int32.toNatClampNeg (hi q28 226 11)))) 226 49) + 1))).bind (fun q32 => W_X12_expression n 12 q32 l1 1)) else none) else none)))))))))) (fun q => exR hE c0 q) := by
        have lf (fz : (hi h 226 13).toInt = 0) (kd : (hi h 229 (Int32.toNatClampNeg (hi h 226 11))).toInt = 8 ∨ (hi h 229 (Int32.toNatClampNeg (hi h 226 11))).toInt = 9 ∨ (hi h 229 (Int32.toNatClampNeg (hi h 226 11))).toInt = 10 ∨ (hi h 229 (Int32.toNatClampNeg (hi h 226 11))).toInt = 15) : Ok (if (1 : Int32) = 0 then (if ((hi h 226 12) : Int32) ≤ (l1 : Int32) then ((F_X12_comesOut n h 0).bind (fun q155 => some q155)) else ((F_X12_fail n h 1).bind (fun q157 => ((F_X12_comesOut n q157 0).bind (fun q159 => some q159))))) else ((F_X12_is n h 10).bind (fun q162 => (if (q162.1 : Int32) = 0 then ((F_X12_is n q162.2 15).bind (fun q171 => (if (q171.1 : Int32) = 0 then ((F_X12_comesOut n q171.2 0).bind (fun q174 => (if ixOK (hi q174 226 11) 403 = true then (if ixOK (hi q174 226 49) 64 = true then ((F_X12_goesOn n (wrI (wrI q174 259 (Int32.toNatClampNeg (hi q174 226 49)) (hi q174 229 (Int32.toNatClampNeg (hi q174 226 11)))) 226 49 ((hi (wrI q174 259 (Int32.toNatClampNeg (hi q174 226 49)) (hi q174 229 (Int32.toNatClampNeg (hi q174 226 11)))) 226 49) + 1))).bind (fun q178 => W_X12_expression n 12 q178 l1 1)) else none) else none))) else ((F_X12_comesOut n q171.2 1).bind (fun q180 => (if ixOK (hi q180 226 11) 403 = true then (if ixOK (hi q180 226 49) 64 = true then ((F_X12_goesOn n (wrI (wrI q180 259 (Int32.toNatClampNeg (hi q180 226 49)) (hi q180 229 (Int32.toNatClampNeg (hi q180 226 11)))) 226 49 ((hi (wrI q180 259 (Int32.toNatClampNeg (hi q180 226 49)) (hi q180 229 (Int32.toNatClampNeg (hi q180 226 11)))) 226 49) + 1))).bind (fun q184 => W_X12_expression n 12 q184 l1 1)) else none) else none)))))) else ((F_X12_comesOut n q162.2 1).bind (fun q165 => (if ixOK (hi q165 226 11) 403 = true then (if ixOK (hi q165 226 49) 64 = true then ((F_X12_goesOn n (wrI (wrI q165 259 (Int32.toNatClampNeg (hi q165 226 49)) (hi q165 229 (Int32.toNatClampNeg (hi q165 226 11)))) 226 49 ((hi (wrI q165 259 (Int32.toNatClampNeg (hi q165 226 49)) (hi q165 229 (Int32.toNatClampNeg (hi q165 226 11)))) 226 49) + 1))).bind (fun q169 => W_X12_expression n 12 q169 l1 1)) else none) else none))))))) (fun q => exR hE c0 q) := Ok.neg (by decide) (TM fz kd)
        have f8 := lit_8
        have f9 := lit_9
        have f10 := lit_10
        have f15 : (15 : Int32).toInt = 15 := by decide
        refine Ok.bind (sr_is t) (fun q1 hq1 => ?_)
        obtain ⟨i1, j1⟩ := hq1
        rw [i1]
        refine Ok.eq (fun d1 => ?_) (fun d1 => lf (j1.2 (by omega)).1 (by have := (j1.2 (by omega)).2; omega))
        refine Ok.bind (sr_is t) (fun q2 hq2 => ?_)
        obtain ⟨i2, j2⟩ := hq2
        rw [i2]
        refine Ok.eq (fun d2 => ?_) (fun d2 => lf (j2.2 (by omega)).1 (by have := (j2.2 (by omega)).2; omega))
        refine Ok.bind (sr_is t) (fun q3 hq3 => ?_)
        obtain ⟨i3, j3⟩ := hq3
        rw [i3]
        refine Ok.eq (fun d3 => ?_) (fun d3 => lf (j3.2 (by omega)).1 (by have := (j3.2 (by omega)).2; omega))
        refine Ok.bind (sr_is t) (fun q4 hq4 => ?_)
        obtain ⟨i4, j4⟩ := hq4
        rw [i4]
        refine Ok.eq (fun d4 => ?_) (fun d4 => lf (j4.2 (by omega)).1 (by have := (j4.2 (by omega)).2; omega))
        exact Ok.pos rfl TE
      rw [u_X12_expression]
      refine Ok.neg (by decide) ?_
      refine Ok.neg (by decide) ?_
      refine Ok.pos rfl ?_
      refine Ok.bind (sr_is t) (fun q18 hq18 => ?_)
      obtain ⟨e18, y18⟩ := hq18
      rw [e18]
      refine Ok.eq (fun _ => CH) (fun c1 => ?_)
      have c2 := y18.2 (by omega)
      have s1 := s1 c2.1
      refine Ok.le (fun _ => CH) (fun c3 => ?_)
      refine Ok.bind (outs h e x 0) (fun q hq => ?_)
      obtain ⟨c', n', k', P', a1, a2, a3, a4, a5, a6, a7⟩ := hq
      have k0 := a3 f0
      subst k0
      obtain ⟨k1, e2⟩ := pop_o a1 (by omega)
      generalize eg : wrI (wrI q 226 49 (hi q 226 49 - 1)) 226 12 (hi (wrI q 226 49 (hi q 226 49 - 1)) 226 12 - 1) = g at e2
      have g11 : hi g 226 11 = hi h 226 11 := by
        rw [← eg, hi_wrI, if_neg (by decide), hi_wrI, if_neg (by decide)]
        exact a5
      have g13 : hi g 226 13 = hi h 226 13 := by
        rw [← eg, hi_wrI, if_neg (by decide), hi_wrI, if_neg (by decide)]
        exact a6
      refine Ok.bind (sr_goesOn e2.2.1) (fun q6 hq6 => ?_)
      have m1 := hq6.1.2.2.2.1
      have h2 := hq6.2
      rw [g11] at m1 h2
      rw [g13] at h2
      have x3 : eA hE c0 g c' P' := a2.eq (g11.trans a5.symm) (g13.trans a6.symm) (Nat.le_refl _)
      exact ih.2.2 q6 c' (n' - 1) k1 (O - 1) P' l2 l (e2.p hq6.1) (x3.p hq6.1) (fun _ => by have := o c2.1; omega) (fun z => by have := p c2.1; omega) ⟨fun z => by have := (h2 z).2; omega, by omega⟩
end EL
end
