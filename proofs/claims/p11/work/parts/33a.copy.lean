/-! rows copied: what is done, undone, held -/
def agr (a : Nat) (h h' : Hp) : Prop := (∀ a' k, a' ≠ a → hi h' a' k = hi h a' k) ∧ (∀ a' k, hl h' a' k = hl h a' k)
def cpI (A B : Nat) (D S : Nat → Nat) (hS h : Hp) (l : Nat) : Prop := agr A hS h ∧ (∀ k, k < l → hi h A (D k) = hi hS B (S k)) ∧ (∀ x, (∀ k, k < l → x ≠ D k) → hi h A x = hi hS A x)
theorem cpI.zero (A B : Nat) (D S : Nat → Nat) (h : Hp) : cpI A B D S h h 0 := ⟨⟨fun _ _ _ => rfl, fun _ _ => rfl⟩, fun k q => absurd q (Nat.not_lt_zero k), fun _ _ => rfl⟩
theorem cpI.step {A B : Nat} {D S : Nat → Nat} {hS h : Hp} {l : Nat} (c : cpI A B D S hS h l) (inj : ∀ k, k < l → D k ≠ D l) {d : Nat} {v : Int32} (hd : d = D l) (hv : v = hi hS B (S l)) : cpI A B D S hS (wrI h A d v) (l + 1) := by
  subst hd
  refine ⟨⟨fun a' k q => ?_, fun a' k => c.1.2 a' k⟩, fun k hk => ?_, fun x hx => ?_⟩
  · rw [hi_wrI, if_neg (fun z => q z.1)]
    exact c.1.1 a' k q
  · rw [hi_wrI]
    by_cases q : k = l
    · subst q
      rw [if_pos ⟨rfl, rfl⟩]
      exact hv
    · rw [if_neg (fun z => inj k (by omega) z.2)]
      exact c.2.1 k (by omega)
  · rw [hi_wrI, if_neg (fun z => hx l (by omega) z.2)]
    exact c.2.2 x (fun k hk => hx k (by omega))
theorem i63 {x y : Int32} (hx : 0 ≤ x.toInt) (hx2 : x.toInt ≤ 39) (hy : 0 ≤ y.toInt) (hy2 : y.toInt < 63) : (63 * x + y).toInt = 63 * x.toInt + y.toInt ∧ Int32.toNatClampNeg (63 * x + y) = 63 * Int32.toNatClampNeg x + Int32.toNatClampNeg y := by
  have f1 := lit_63
  have f2 := mlT 63 x 63 lit_63 (by omega) (by omega)
  have f3 := adT (63 * x) y (by omega) (by omega)
  have k : (63 * x + y).toInt = 63 * x.toInt + y.toInt := by omega
  have n0 := ncT (show 0 ≤ (63 * x + y).toInt by omega)
  have n1 := ncT hx
  have n2 := ncT hy
  exact ⟨k, by omega⟩
theorem cp_keeps {hS : Hp} {P : Hp → Prop} (kk : ∀ q, cpI 262 263 (fun k => k) (fun k => k) hS q 63 → P q) : ∀ n : Nat, ∀ (h : Hp) (l1 : Int32), 0 ≤ l1.toInt → l1.toInt ≤ 63 → cpI 262 263 (fun k => k) (fun k => k) hS h (Int32.toNatClampNeg l1) → (1 : Int) + (63 - l1.toInt) < n → Ok (W_X12_keepsRow n 2 h l1) P := by
  intro n
  induction n with
  | zero => intro h l1 a b c d; exfalso; omega
  | succ n ih =>
    intro h l1 a b c d
    have f1 := ncT a
    have f63 := lit_63
    have f2 := adT l1 1
    have f3 := lit_1
    rw [u_X12_keepsRow]
    refine Ok.pos rfl ?_
    refine Ok.le (fun c1 => ?_) (fun c1 => ?_)
    · refine Ok.ret (kk h ?_)
      rw [show Int32.toNatClampNeg l1 = 63 by omega] at c
      exact c
    · refine Ok.chk (ixT (by omega) (by omega)) (fun c2 => ?_)
      refine Ok.pos c2 ?_
      have f4 := ncT (show 0 ≤ (l1 + 1 : Int32).toInt by omega)
      refine ih _ (l1 + 1) (by omega) (by omega) ?_ (by omega)
      rw [show Int32.toNatClampNeg (l1 + 1) = Int32.toNatClampNeg l1 + 1 by omega]
      exact c.step (fun k hk => by show k ≠ Int32.toNatClampNeg l1; omega) rfl (c.1.1 263 _ (by decide))
theorem sf_X12_keepsRow {n : Nat} {h : Hp} (hn : 100 ≤ n) : Ok (F_X12_keepsRow n h) (fun q => cpI 262 263 (fun k => k) (fun k => k) h q 63) := by
  have f0 := lit_0
  have f1 := ncT (show 0 ≤ (0 : Int32).toInt by omega)
  unfold F_X12_keepsRow
  refine cp_keeps (fun q hq => hq) n h 0 (by omega) (by omega) ?_ (by omega)
  rw [show Int32.toNatClampNeg 0 = 0 by omega]
  exact cpI.zero _ _ _ _ h
theorem cp_undo {hS : Hp} (u0 : 0 ≤ (hi hS 226 59).toInt) (u1 : (hi hS 226 59).toInt ≤ 39) {P : Int32 × Hp → Prop} (kk : ∀ q, cpI 262 266 (fun k => k) (fun k => 63 * Int32.toNatClampNeg (hi hS 226 59) + k) hS q 63 → P (1, q)) : ∀ n : Nat, ∀ (h : Hp) (l1 : Int32), 0 ≤ l1.toInt → l1.toInt ≤ 63 → cpI 262 266 (fun k => k) (fun k => 63 * Int32.toNatClampNeg (hi hS 226 59) + k) hS h (Int32.toNatClampNeg l1) → (1 : Int) + (63 - l1.toInt) < n → Ok (W_X12_undo n 21 h l1) P := by
  intro n
  induction n with
  | zero => intro h l1 a b c d; exfalso; omega
  | succ n ih =>
    intro h l1 a b c d
    have f1 := ncT a
    have f63 := lit_63
    have f2 := adT l1 1
    have f3 := lit_1
    rw [u_X12_undo]
    refine Ok.pos rfl ?_
    refine Ok.le (fun c1 => ?_) (fun c1 => ?_)
    · refine Ok.ret (kk h ?_)
      rw [show Int32.toNatClampNeg l1 = 63 by omega] at c
      exact c
    · have e1 : hi h 226 59 = hi hS 226 59 := c.1.1 226 59 (by decide)
      rw [e1]
      have ix := i63 u0 u1 a (by omega)
      have iu := ncT u0
      refine Ok.chk (ixT (by omega) (by omega)) (fun c2 => ?_)
      refine Ok.chk (ixT (by omega) (by omega)) (fun c3 => ?_)
      have f4 := ncT (show 0 ≤ (l1 + 1 : Int32).toInt by omega)
      refine ih _ (l1 + 1) (by omega) (by omega) ?_ (by omega)
      rw [show Int32.toNatClampNeg (l1 + 1) = Int32.toNatClampNeg l1 + 1 by omega]
      refine c.step (fun k hk => by show k ≠ Int32.toNatClampNeg l1; omega) rfl ?_
      rw [ix.2]
      exact c.1.1 266 _ (by decide)
theorem cp_hold {hS : Hp} {x : Int32} (u0 : 0 ≤ x.toInt) (u1 : x.toInt ≤ 2) {P : Int32 × Hp → Prop} (kk : ∀ q, cpI 274 262 (fun k => 63 * Int32.toNatClampNeg x + k) (fun k => k) hS q 63 → P (1, q)) : ∀ n : Nat, ∀ (h : Hp) (l2 : Int32), 0 ≤ l2.toInt → l2.toInt ≤ 63 → cpI 274 262 (fun k => 63 * Int32.toNatClampNeg x + k) (fun k => k) hS h (Int32.toNatClampNeg l2) → (1 : Int) + (63 - l2.toInt) < n → Ok (W_X12_hold n 20 h x l2) P := by
  intro n
  induction n with
  | zero => intro h l1 a b c d; exfalso; omega
  | succ n ih =>
    intro h l1 a b c d
    have f1 := ncT a
    have f63 := lit_63
    have f2 := adT l1 1
    have f3 := lit_1
    rw [u_X12_hold]
    refine Ok.pos rfl ?_
    refine Ok.le (fun c1 => ?_) (fun c1 => ?_)
    · refine Ok.ret (kk h ?_)
      rw [show Int32.toNatClampNeg l1 = 63 by omega] at c
      exact c
    · have ix := i63 u0 (by omega) a (by omega)
      have iu := ncT u0
      refine Ok.chk (ixT (by omega) (by omega)) (fun c2 => ?_)
      refine Ok.chk (ixT (by omega) (by omega)) (fun c3 => ?_)
      have f4 := ncT (show 0 ≤ (l1 + 1 : Int32).toInt by omega)
      refine ih _ (l1 + 1) (by omega) (by omega) ?_ (by omega)
      rw [show Int32.toNatClampNeg (l1 + 1) = Int32.toNatClampNeg l1 + 1 by omega]
      exact c.step (fun k hk => by show 63 * Int32.toNatClampNeg x + k ≠ 63 * Int32.toNatClampNeg x + Int32.toNatClampNeg l1; omega) ix.2 (c.1.1 262 _ (by decide))
theorem cp_restore {hS : Hp} {x : Int32} (u0 : 0 ≤ x.toInt) (u1 : x.toInt ≤ 2) {P : Int32 × Hp → Prop} (kk : ∀ q, cpI 262 274 (fun k => k) (fun k => 63 * Int32.toNatClampNeg x + k) hS q 63 → P (1, wrI q 226 59 0)) : ∀ n : Nat, ∀ (h : Hp) (l2 : Int32), 0 ≤ l2.toInt → l2.toInt ≤ 63 → cpI 262 274 (fun k => k) (fun k => 63 * Int32.toNatClampNeg x + k) hS h (Int32.toNatClampNeg l2) → (1 : Int) + (63 - l2.toInt) < n → Ok (W_X12_restore n 22 h x l2) P := by
  intro n
  induction n with
  | zero => intro h l1 a b c d; exfalso; omega
  | succ n ih =>
    intro h l1 a b c d
    have f1 := ncT a
    have f63 := lit_63
    have f2 := adT l1 1
    have f3 := lit_1
    rw [u_X12_restore]
    refine Ok.pos rfl ?_
    refine Ok.le (fun c1 => ?_) (fun c1 => ?_)
    · refine Ok.ret (kk h ?_)
      rw [show Int32.toNatClampNeg l1 = 63 by omega] at c
      exact c
    · have ix := i63 u0 (by omega) a (by omega)
      have iu := ncT u0
      refine Ok.chk (ixT (by omega) (by omega)) (fun c2 => ?_)
      refine Ok.chk (ixT (by omega) (by omega)) (fun c3 => ?_)
      have f4 := ncT (show 0 ≤ (l1 + 1 : Int32).toInt by omega)
      refine ih _ (l1 + 1) (by omega) (by omega) ?_ (by omega)
      rw [show Int32.toNatClampNeg (l1 + 1) = Int32.toNatClampNeg l1 + 1 by omega]
      refine c.step (fun k hk => by show k ≠ Int32.toNatClampNeg l1; omega) rfl ?_
      rw [ix.2]
      exact c.1.1 274 _ (by decide)
/-! a thing done -/
theorem cp_rec2 {hS : Hp} (u0 : 0 ≤ (hi hS 226 59).toInt) (u1 : (hi hS 226 59).toInt ≤ 39) {P : Hp → Prop} (kk : ∀ q q2, cpI 266 262 (fun k => 63 * Int32.toNatClampNeg (hi hS 226 59) + k) (fun k => k) hS q 63 → cpI 262 263 (fun k => k) (fun k => k) (wrI q 226 59 (hi hS 226 59 + 1)) q2 63 → P q2) : ∀ n : Nat, ∀ (h : Hp) (l1 : Int32), 0 ≤ l1.toInt → l1.toInt ≤ 63 → cpI 266 262 (fun k => 63 * Int32.toNatClampNeg (hi hS 226 59) + k) (fun k => k) hS h (Int32.toNatClampNeg l1) → (200 : Int) + (63 - l1.toInt) < n → Ok (W_X12_records n 51 h l1) P := by
  intro n
  induction n with
  | zero => intro h l1 a b c d; exfalso; omega
  | succ n ih =>
    intro h l1 a b c d
    have f1 := ncT a
    have f63 := lit_63
    have f2 := adT l1 1
    have f3 := lit_1
    have e1 : hi h 226 59 = hi hS 226 59 := c.1.1 226 59 (by decide)
    rw [u_X12_records]
    refine Ok.neg (by decide) ?_
    refine Ok.pos rfl ?_
    rw [e1]
    refine Ok.le (fun c1 => ?_) (fun c1 => ?_)
    · rw [show Int32.toNatClampNeg l1 = 63 by omega] at c
      refine Ok.bind (sf_X12_keepsRow (by omega)) (fun q5 hq5 => ?_)
      exact Ok.ret (kk h q5 c hq5)
    · have ix := i63 u0 u1 a (by omega)
      have iu := ncT u0
      refine Ok.chk (ixT (by omega) (by omega)) (fun c2 => ?_)
      refine Ok.chk (ixT (by omega) (by omega)) (fun c3 => ?_)
      have f4 := ncT (show 0 ≤ (l1 + 1 : Int32).toInt by omega)
      refine ih _ (l1 + 1) (by omega) (by omega) ?_ (by omega)
      rw [show Int32.toNatClampNeg (l1 + 1) = Int32.toNatClampNeg l1 + 1 by omega]
      exact c.step (fun k hk => by show 63 * Int32.toNatClampNeg (hi hS 226 59) + k ≠ 63 * Int32.toNatClampNeg (hi hS 226 59) + Int32.toNatClampNeg l1; omega) ix.2 (c.1.1 262 _ (by decide))
theorem cp_rec1 {hS : Hp} {P : Hp → Prop} (kk : ∀ (m : Nat) (q : Hp), 400 ≤ m → cpI 266 266 (fun k => k) (fun k => k + 63) hS q 2457 → Ok (W_X12_records m 51 (wrI q 226 59 (hi hS 226 59 - 1)) 0) P) : ∀ n : Nat, ∀ (h : Hp) (l1 : Int32), 0 ≤ l1.toInt → l1.toInt ≤ 2457 → cpI 266 266 (fun k => k) (fun k => k + 63) hS h (Int32.toNatClampNeg l1) → (500 : Int) + (2457 - l1.toInt) < n → Ok (W_X12_records n 11 h l1) P := by
  intro n
  induction n with
  | zero => intro h l1 a b c d; exfalso; omega
  | succ n ih =>
    intro h l1 a b c d
    have f1 := ncT a
    have f63 := lit_63
    have f2457 : (2457 : Int32).toInt = 2457 := by decide
    have f2 := adT l1 1
    have f3 := lit_1
    have e1 : hi h 226 59 = hi hS 226 59 := c.1.1 226 59 (by decide)
    rw [u_X12_records]
    refine Ok.pos rfl ?_
    refine Ok.le (fun c1 => ?_) (fun c1 => ?_)
    · rw [show Int32.toNatClampNeg l1 = 2457 by omega] at c
      rw [e1]
      exact kk n h (by omega) c
    · have f5 := adT l1 63
      have f6 := ncT (show 0 ≤ (l1 + 63 : Int32).toInt by omega)
      refine Ok.chk (ixT (by omega) (by omega)) (fun c2 => ?_)
      refine Ok.chk (ixT (by omega) (by omega)) (fun c3 => ?_)
      have f4 := ncT (show 0 ≤ (l1 + 1 : Int32).toInt by omega)
      refine ih _ (l1 + 1) (by omega) (by omega) ?_ (by omega)
      rw [show Int32.toNatClampNeg (l1 + 1) = Int32.toNatClampNeg l1 + 1 by omega]
      refine c.step (fun k hk => by show k ≠ Int32.toNatClampNeg l1; omega) rfl ?_
      rw [show Int32.toNatClampNeg (l1 + 63) = Int32.toNatClampNeg l1 + 63 by omega]
      exact c.2.2 _ (fun k hk => by show Int32.toNatClampNeg l1 + 63 ≠ k; omega)
