/-! ASKS: two runs that answer alike; who sounds at a time, in both -/
def J2 (A B : Option (Int32 × Hp)) : Prop := ∀ x y, A = some x → B = some y → x.1 = y.1
section RJ2
variable {α β : Type} {A A' B B' : Option (Int32 × Hp)} {a b : Int32} {h h' : Hp}
theorem J2.ret (e : a = b) : J2 (some (a, h)) (some (b, h')) := fun x y e1 e2 => by cases e1; cases e2; exact e
theorem J2.nl : J2 none B := fun x y e1 _ => by cases e1
theorem J2.nr : J2 A none := fun x y _ e2 => by cases e2
theorem J2.bind {P : α → Prop} {Q : β → Prop} {o1 : Option α} {o2 : Option β} {f : α → Option (Int32 × Hp)} {g : β → Option (Int32 × Hp)} (p1 : Pc o1 P) (p2 : Pc o2 Q) (k : ∀ x y, P x → Q y → J2 (f x) (g y)) : J2 (o1.bind f) (o2.bind g) := by
  intro x y e1 e2
  obtain ⟨u, u1, u2⟩ := Option.bind_eq_some_iff.mp e1
  obtain ⟨w, w1, w2⟩ := Option.bind_eq_some_iff.mp e2
  exact k u w (p1 u u1) (p2 w w1) x y u2 w2
theorem J2.bl {P : α → Prop} {o1 : Option α} {f : α → Option (Int32 × Hp)} (p1 : Pc o1 P) (k : ∀ x, P x → J2 (f x) B) : J2 (o1.bind f) B := by
  intro x y e1 e2
  obtain ⟨u, u1, u2⟩ := Option.bind_eq_some_iff.mp e1
  exact k u (p1 u u1) x y u2 e2
theorem J2.br {Q : β → Prop} {o2 : Option β} {g : β → Option (Int32 × Hp)} (p2 : Pc o2 Q) (k : ∀ y, Q y → J2 A (g y)) : J2 A (o2.bind g) := by
  intro x y e1 e2
  obtain ⟨w, w1, w2⟩ := Option.bind_eq_some_iff.mp e2
  exact k w (p2 w w1) x y e1 w2
theorem J2.ite {c d : Prop} [Decidable c] [Decidable d] (e : c ↔ d) (k1 : c → J2 A B) (k2 : ¬ c → J2 A' B') : J2 (if c then A else A') (if d then B else B') := by
  by_cases y : c
  · rw [if_pos y, if_pos (e.mp y)]; exact k1 y
  · rw [if_neg y, if_neg (fun z => y (e.mpr z))]; exact k2 y
theorem J2.il {c : Prop} [Decidable c] (k1 : c → J2 A B) (k2 : ¬ c → J2 A' B) : J2 (if c then A else A') B := by
  by_cases y : c
  · rw [if_pos y]; exact k1 y
  · rw [if_neg y]; exact k2 y
theorem J2.ir {d : Prop} [Decidable d] (k1 : d → J2 A B) (k2 : ¬ d → J2 A B') : J2 A (if d then B else B') := by
  by_cases y : d
  · rw [if_pos y]; exact k1 y
  · rw [if_neg y]; exact k2 y
theorem J2.cl {c : Prop} [Decidable c] (k1 : c → J2 A B) : J2 (if c then A else none) B := J2.il k1 (fun _ => J2.nl)
theorem J2.cr {d : Prop} [Decidable d] (k1 : d → J2 A B) : J2 A (if d then B else none) := J2.ir k1 (fun _ => J2.nr)
theorem J2.pl {c : Prop} [Decidable c] (y : c) (k1 : J2 A B) : J2 (if c then A else A') B := by rw [if_pos y]; exact k1
theorem J2.pr {d : Prop} [Decidable d] (y : d) (k1 : J2 A B) : J2 A (if d then B else B') := by rw [if_pos y]; exact k1
theorem J2.ml {c : Prop} [Decidable c] (y : ¬ c) (k1 : J2 A' B) : J2 (if c then A else A') B := by rw [if_neg y]; exact k1
theorem J2.mr {d : Prop} [Decidable d] (y : ¬ d) (k1 : J2 A B') : J2 A (if d then B else B') := by rw [if_neg y]; exact k1
end RJ2
/-- the lowest alone -/
theorem bt_iso {x : Int32} {i : Nat} (hi' : i < 32) (h1 : bt x i = true) (h2 : ∀ m, m < i → bt x m = false) (j : Nat) : bt (x &&& (-x)) j = decide (j = i) := by
  by_cases hj : j < 32
  · show (x &&& (-x)).toBitVec.getLsbD j = _
    rw [Int32.toBitVec_and, BitVec.getLsbD_and, Int32.toBitVec_neg, BitVec.getLsbD_neg, decide_eq_true hj, Bool.true_and]
    rcases Nat.lt_trichotomy j i with z | z | z
    · have a : x.toBitVec.getLsbD j = false := h2 j z
      rw [a, Bool.false_and, decide_eq_false (by omega)]
    · subst z
      have a : x.toBitVec.getLsbD j = true := h1
      have b : ¬ ∃ k, k < j ∧ x.toBitVec.getLsbD k = true := fun ⟨k, k1, k2⟩ => by
        have c : x.toBitVec.getLsbD k = false := h2 k k1
        rw [c] at k2
        exact Bool.noConfusion k2
      rw [a, decide_eq_false b, decide_eq_true rfl]
      rfl
    · have b : ∃ k, k < j ∧ x.toBitVec.getLsbD k = true := ⟨i, z, h1⟩
      rw [decide_eq_true b, decide_eq_false (show ¬ j = i by omega)]
      cases x.toBitVec.getLsbD j <;> rfl
  · rw [bt_ge _ (by omega), decide_eq_false (by omega)]
section RYA
variable {s G : Nat} {T : TT} {h h0 q : Hp} {n : Nat} {x1 x2 : Int32} {f : Nat → Int32} {a : Nat}
/-- the row that the reference has copied is the class's scene, too -/
theorem RLs.row (r : RLs s T h0) (k1 : hi q 262 = hi h0 262) (rf : RFW q f) : SCR (wT T * gT T) T.go.length f 30 h0 ∧ RVR (wT T * gT T) T.go.length f := by
  obtain ⟨⟨v, -⟩, ⟨sc, rv⟩, -, -⟩ := r
  have c25 := (wg_T v).1
  have G5 := v.2.2.1.1
  have e (k : Nat) (hk : k < 63) : f k = hi h0 262 k := by rw [rf k hk, k1]
  exact ⟨sc.cg c25 G5 e, rv.cg G5 (fun k hk => e k (by omega))⟩
theorem ld_pos {b : Nat} {t : Int32} (z : loudF f b t = true) : 0 < (f b).toInt := by
  unfold loudF at z
  rw [Bool.and_eq_true, decide_eq_true_eq] at z
  exact z.1
/-- the class: who sounds -/
theorem la_10 (c25 : wT T * gT T ≤ 25) (sc : SCR (wT T * gT T) G f a h) (rv : RVR (wT T * gT T) G f) : ∀ (n : Nat) (l2 l3 l4 : Int32) (p : Nat), 0 ≤ l3.toInt → l3.toInt ≤ p → p ≤ 32 → (∀ j, j < 32 → bt l4 j = (decide (p ≤ j) && (decide (j < wT T * gT T) && decide (0 < (f j).toInt)))) → (∀ j, j < 32 → bt l2 j = (decide (j < p) && (decide (j < wT T * gT T) && loudF f j x1))) → Pc (W_X8_loudAt n 10 h a x1 l2 l3 l4) (fun q => q.2 = h ∧ ∀ j, j < 32 → bt q.1 j = (decide (j < wT T * gT T) && loudF f j x1)) := by
  intro n
  induction n with
  | zero => intro l2 l3 l4 p a1 a2 a3 b4 b2; exact Pc.no
  | succ n ih =>
    intro l2 l3 l4 p a1 a2 a3 b4 b2
    have f1 := lit_1
    have f25 := lit_25
    rw [u_X8_loudAt]
    refine Pc.pos rfl ?_
    have fin (z : ∀ j, p ≤ j → j < wT T * gT T → ¬ 0 < (f j).toInt) : ∀ j, j < 32 → bt l2 j = (decide (j < wT T * gT T) && loudF f j x1) := by
      intro j hj
      rw [b2 j hj]
      by_cases y : j < p
      · rw [decide_eq_true y, Bool.true_and]
      · rw [decide_eq_false y, Bool.false_and]
        by_cases y2 : j < wT T * gT T
        · have : loudF f j x1 = false := by
            cases e : loudF f j x1 with
            | false => rfl
            | true => exact absurd (ld_pos e) (z j (by omega) y2)
          rw [this, Bool.and_false]
        · rw [decide_eq_false y2, Bool.false_and]
    refine Pc.le (fun z => Pc.ret ⟨rfl, fin (fun j h1 h2 => by exfalso; omega)⟩) (fun z => ?_)
    refine Pc.ite (fun e0 => Pc.ret ⟨rfl, fin (fun j h1 h2 w => ?_)⟩) (fun e0 => ?_)
    · have := b4 j (by omega)
      rw [e0, bt_zero, decide_eq_true h1, decide_eq_true h2, decide_eq_true w] at this
      exact absurd this (by decide)
    obtain ⟨i, i32, i1, i2⟩ := bt_low e0
    have b1 := b4 i i32
    rw [i1] at b1
    have pq : p ≤ i ∧ i < wT T * gT T ∧ 0 < (f i).toInt := by
      have := b1.symm
      rw [Bool.and_eq_true, Bool.and_eq_true, decide_eq_true_eq, decide_eq_true_eq, decide_eq_true_eq] at this
      exact this
    refine Pc.bind pc_lowest (fun q3 h3 => ?_)
    obtain ⟨t1, -, t3⟩ := h3
    have hx := t3 i i32 i1 i2
    rw [t1]
    refine Pc.bind (so_c sc rv c25 (b := i) pq.2.1 hx (x2 := x1)) (fun q5 h5 => ?_)
    obtain ⟨t4, t5⟩ := h5
    have a6 := adT l3 1 (by omega) (by omega)
    have b4' : ∀ j, j < 32 → bt (l4 &&& (l4 - 1)) j = (decide (i + 1 ≤ j) && (decide (j < wT T * gT T) && decide (0 < (f j).toInt))) := by
      intro j hj
      rw [lo_clr i32 i1 i2 j]
      by_cases y : j = i
      · rw [decide_eq_true y, decide_eq_false (show ¬ i + 1 ≤ j by omega), Bool.not_true, Bool.and_false, Bool.false_and]
      · rw [decide_eq_false y, Bool.not_false, Bool.and_true]
        by_cases y2 : j < i
        · rw [i2 j y2, decide_eq_false (show ¬ i + 1 ≤ j by omega), Bool.false_and]
        · rw [b4 j hj, decide_eq_true (show p ≤ j by omega), decide_eq_true (show i + 1 ≤ j by omega)]
    -- between p and i nobody sounds
    have gap (j : Nat) (h1 : p ≤ j) (h2 : j < i) : (decide (j < wT T * gT T) && loudF f j x1) = false := by
      have := b4 j (by omega)
      rw [i2 j h2, decide_eq_true h1, Bool.true_and] at this
      cases e : loudF f j x1 with
      | false => rw [Bool.and_false]
      | true =>
        rw [decide_eq_true (ld_pos e), Bool.and_true] at this
        rw [← this, Bool.false_and]
    rw [t4, t5]
    by_cases w : loudF f i x1 = true
    · rw [if_pos w]
      refine Pc.ite (fun y => absurd y (by decide)) (fun _ => ih _ (l3 + 1) _ (i + 1) (by omega) (by omega) (by omega) b4' (fun j hj => ?_))
      rw [bt_or, bt_iso i32 i1 i2, b2 j hj]
      by_cases y : j = i
      · rw [y, w, decide_eq_true (show i = i from rfl), decide_eq_true (show i < i + 1 by omega), decide_eq_true pq.2.1, Bool.or_true]
        rfl
      · rw [decide_eq_false y, Bool.or_false]
        by_cases y2 : j < p
        · rw [decide_eq_true y2, decide_eq_true (show j < i + 1 by omega)]
        · by_cases y3 : j < i
          · rw [gap j (by omega) y3, Bool.and_false, Bool.and_false]
          · rw [decide_eq_false y2, decide_eq_false (show ¬ j < i + 1 by omega)]
    · rw [if_neg w]
      refine Pc.ite (fun _ => ih _ (l3 + 1) _ (i + 1) (by omega) (by omega) (by omega) b4' (fun j hj => ?_)) (fun y => absurd rfl y)
      rw [b2 j hj]
      by_cases y2 : j < p
      · rw [decide_eq_true y2, decide_eq_true (show j < i + 1 by omega)]
      · by_cases y3 : j < i
        · rw [gap j (by omega) y3, Bool.and_false, Bool.and_false]
        · by_cases y : j = i
          · rw [y, Bool.eq_false_iff.mpr w, Bool.and_false, Bool.and_false, Bool.and_false]
          · rw [decide_eq_false y2, decide_eq_false (show ¬ j < i + 1 by omega)]
theorem la_c (c25 : wT T * gT T ≤ 25) (sc : SCR (wT T * gT T) G f a h) (rv : RVR (wT T * gT T) G f) : Pc (F_X8_loudAt n h a x1) (fun q => q.2 = h ∧ ∀ j, j < 32 → bt q.1 j = (decide (j < wT T * gT T) && loudF f j x1)) := by
  unfold F_X8_loudAt
  have f0 := lit_0
  refine la_10 c25 sc rv n 0 0 _ 0 (by omega) (by omega) (by decide) (fun j hj => ?_) (fun j hj => ?_)
  · rw [decide_eq_true (Nat.zero_le j), Bool.true_and]
    have := sc.2.1 j hj
    cases e : bt (hi h a 3) j with
    | true => rw [decide_eq_true (this.mp e).1, decide_eq_true (this.mp e).2]; rfl
    | false =>
      by_cases y : j < wT T * gT T
      · rw [decide_eq_true y, decide_eq_false (fun z => by rw [this.mpr ⟨y, z⟩] at e; exact absurd e (by decide))]; rfl
      · rw [decide_eq_false y]; rfl
  · rw [bt_zero, decide_eq_false (Nat.not_lt_zero j), Bool.false_and]
/-- the reference: who sounds -/
theorem lb_4 (v : VT T) (e : EN2 s T h) : ∀ (n : Nat) (l2 l3 : Int32) (i : Nat), l3.toInt = (i : Int) → i ≤ wT T * gT T → (∀ j, j < 32 → bt l2 j = (decide (j < i) && loudF (hi h 263) j x1)) → Pc (W_X12_loudBits n 4 h x1 l2 l3) (fun q => q.2 = h ∧ ∀ j, j < 32 → bt q.1 j = (decide (j < wT T * gT T) && loudF (hi h 263) j x1)) := by
  intro n
  have c25 := (wg_T v).1
  induction n with
  | zero => intro l2 l3 i a b c; exact Pc.no
  | succ n ih =>
    intro l2 l3 i a b c
    have f1 := lit_1
    rw [u_X12_loudBits]
    refine Pc.pos rfl ?_
    refine Pc.bind (ce_r v e) (fun q1 h1 => ?_)
    obtain ⟨t1, t2⟩ := h1
    rw [t1]
    refine Pc.le (fun z => Pc.ret ⟨rfl, ?_⟩) (fun z => ?_)
    · have : i = wT T * gT T := by omega
      rw [← this]
      exact c
    have a1 := adT l3 1 (by omega) (by omega)
    refine Pc.bind (il_r (b := i) (by omega) a) (fun q4 h4 => ?_)
    obtain ⟨t3, t4⟩ := h4
    rw [t3, t4]
    have st (y : Bool) (hy : y = loudF (hi h 263) i x1) (l2' : Int32) (hl : ∀ j, j < 32 → bt l2' j = (bt l2 j || (y && decide (j = i)))) : ∀ j, j < 32 → bt l2' j = (decide (j < i + 1) && loudF (hi h 263) j x1) := by
      intro j hj
      rw [hl j hj, c j hj]
      by_cases w : j = i
      · rw [w, hy, decide_eq_false (Nat.lt_irrefl i), decide_eq_true (show i < i + 1 by omega), decide_eq_true (show i = i from rfl), Bool.false_and, Bool.false_or, Bool.and_true, Bool.true_and]
      · rw [decide_eq_false w, Bool.and_false, Bool.or_false]
        by_cases w2 : j < i
        · rw [decide_eq_true w2, decide_eq_true (show j < i + 1 by omega)]
        · rw [decide_eq_false w2, decide_eq_false (show ¬ j < i + 1 by omega)]
    by_cases w : loudF (hi h 263) i x1 = true
    · rw [if_pos w]
      exact Pc.ite (fun y => absurd y (by decide)) (fun _ => ih _ (l3 + 1) (i + 1) (by omega) (by omega) (st true w.symm _ (fun j hj => by rw [bt_add a (by omega), Bool.true_and])))
    · rw [if_neg w]
      exact Pc.ite (fun _ => ih _ (l3 + 1) (i + 1) (by omega) (by omega) (st false (Bool.eq_false_iff.mpr w).symm _ (fun j hj => by rw [Bool.false_and, Bool.or_false]))) (fun y => absurd rfl y)
theorem lb_r (v : VT T) (e : EN2 s T h) : Pc (F_X12_loudBits n h x1) (fun q => q.2 = h ∧ ∀ j, j < 32 → bt q.1 j = (decide (j < wT T * gT T) && loudF (hi h 263) j x1)) := by
  unfold F_X12_loudBits
  exact lb_4 v e n 0 0 0 lit_0 (Nat.zero_le _) (fun j _ => by rw [bt_zero, decide_eq_false (Nat.not_lt_zero j), Bool.false_and])
end RYA
