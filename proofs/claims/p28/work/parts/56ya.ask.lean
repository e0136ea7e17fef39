section
/-! ASKS: two runs that answer alike; who sounds at a time, in both -/
def J2 (A B : Option (Int32 × Hp)) : Prop := ∀ x y, A = some x → B = some y → x.1 = y.1
section RJ2
variable {α β : Type} {A A' B B' : Option (Int32 × Hp)} {a b : Int32} {h h' : Hp}
theorem J2.ret (e : a = b) : J2 (some (a, h)) (some (b, h')) := fun x y e1 e2 => by cases e1; cases e2; exact e
theorem J2.nl : J2 none B := fun x y e1 _ => by cases e1
theorem J2.nr : J2 A none := fun x y _ e2 => by cases e2
theorem J2.bind {P : α → Prop} {Q : β → Prop} {o1 : Option α} {o2 : Option β} {f : α → Option (Int32 × Hp)} {g : β → Option (Int32 × Hp)} (p1 : Pc o1 P) (p2 : Pc o2 Q) (k : ∀ x y, P x → Q y → J2 (f x) (g y)) : J2 (o1.bind f) (o2.bind g) := by
  intro x y e1 e2
  obtain ⟨u, u1, u2⟩ := Option.bind_eq_some_iff.mp e1
  obtain ⟨w, w1, w2⟩ := Option.bind_eq_some_iff.mp e2
  exact k u w (p1 u u1) (p2 w w1) x y u2 w2
theorem J2.bl {P : α → Prop} {o1 : Option α} {f : α → Option (Int32 × Hp)} (p1 : Pc o1 P) (k : ∀ x, P x → J2 (f x) B) : J2 (o1.bind f) B := by
  intro x y e1 e2
  obtain ⟨u, u1, u2⟩ := Option.bind_eq_some_iff.mp e1
  exact k u (p1 u u1) x y u2 e2
theorem J2.br {Q : β → Prop} {o2 : Option β} {g : β → Option (Int32 × Hp)} (p2 : Pc o2 Q) (k : ∀ y, Q y → J2 A (g y)) : J2 A (o2.bind g) := by
  intro x y e1 e2
  obtain ⟨w, w1, w2⟩ := Option.bind_eq_some_iff.mp e2
  exact k w (p2 w w1) x y e1 w2
theorem J2.ite {c d : Prop} [Decidable c] [Decidable d] (e : c ↔ d) (k1 : c → J2 A B) (k2 : ¬ c → J2 A' B') : J2 (if c then A else A') (if d then B else B') := by
  by_cases y : c
  · rw [if_pos y, if_pos (e.mp y)]; exact k1 y
  · rw [if_neg y, if_neg (fun z => y (e.mpr z))]; exact k2 y
theorem J2.il {c : Prop} [Decidable c] (k1 : c → J2 A B) (k2 : ¬ c → J2 A' B) : J2 (if c then A else A') B := by
  by_cases y : c
  · rw [if_pos y]; exact k1 y
  · rw [if_neg y]; exact k2 y
theorem J2.ir {d : Prop} [Decidable d] (k1 : d → J2 A B) (k2 : ¬ d → J2 A B') : J2 A (if d then B else B') := by
  by_cases y : d
  · rw [if_pos y]; exact k1 y
  · rw [if_neg y]; exact k2 y
theorem J2.cl {c : Prop} [Decidable c] (k1 : c → J2 A B) : J2 (if c then A else none) B := J2.il k1 (fun _ => J2.nl)
theorem J2.cr {d : Prop} [Decidable d] (k1 : d → J2 A B) : J2 A (if d then B else none) := J2.ir k1 (fun _ => J2.nr)
theorem J2.pl {c : Prop} [Decidable c] (y : c) (k1 : J2 A B) : J2 (if c then A else A') B := by rw [if_pos y]; exact k1
theorem J2.pr {d : Prop} [Decidable d] (y : d) (k1 : J2 A B) : J2 A (if d then B else B') := by rw [if_pos y]; exact k1
theorem J2.ml {c : Prop} [Decidable c] (y : ¬ c) (k1 : J2 A' B) : J2 (if c then A else A') B := by rw [if_neg y]; exact k1
theorem J2.mr {d : Prop} [Decidable d] (y : ¬ d) (k1 : J2 A B') : J2 A (if d then B else B') := by rw [if_neg y]; exact k1
end RJ2
/-- the lowest alone -/
theorem bt_iso {x : Int32} {i : Nat} (hi' : i < 32) (h1 : bt x i = true) (h2 : ∀ m, m < i → bt x m = false) (j : Nat) : bt (x &&& (-x)) j = decide (j = i) := by
  by_cases hj : j < 32
  · show (x &&& (-x)).toBitVec.getLsbD j = _
    rw [Int32.toBitVec_and, BitVec.getLsbD_and, Int32.toBitVec_neg, BitVec.getLsbD_neg, decide_eq_true hj, Bool.true_and]
    rcases Nat.lt_trichotomy j i with z | z | z
    · have a : x.toBitVec.getLsbD j = false := h2 j z
      rw [a, Bool.false_and, decide_eq_false (by omega)]
    · subst z
      have a : x.toBitVec.getLsbD j = true := h1
      have b : ¬ ∃ k, k < j ∧ x.toBitVec.getLsbD k = true := fun ⟨k, k1, k2⟩ => by
        have c : x.toBitVec.getLsbD k = false := h2 k k1
        rw [c] at k2
        exact Bool.noConfusion k2
      rw [a, decide_eq_false b, decide_eq_true rfl]
      rfl
    · have b : ∃ k, k < j ∧ x.toBitVec.getLsbD k = true := ⟨i, z, h1⟩
      rw [decide_eq_true b, decide_eq_false (show ¬ j = i by omega)]
      cases x.toBitVec.getLsbD j <;> rfl
  · rw [bt_ge _ (by omega), decide_eq_false (by omega)]
section RYA
variable {s G : Nat} {T : TT} {h h0 q : Hp} {n : Nat} {x1 x2 : Int32} {f : Nat → Int32} {a : Nat}
/-- the row that the reference has copied is the class's scene, too -/
theorem RLs.row (r : RLs s T h0) (k1 : hi q 262 = hi h0 262) (rf : RFW q f) : SCR (wT T * gT T) T.go.length f 30 h0 ∧ RVR (wT T * gT T) T.go.length f := by
  obtain ⟨⟨v, -⟩, ⟨sc, rv⟩, -, -⟩ := r
  have c25 := (wg_T v).1
  have G5 := v.2.2.1.1
  have e (k : Nat) (hk : k < 63) : f k = hi h0 262 k := by rw [rf k hk, k1]
  exact ⟨sc.cg c25 G5 e, rv.cg G5 (fun k hk => e k (by omega))⟩
theorem ld_pos {b : Nat} {t : Int32} (z : loudF f b t = true) : 0 < (f b).toInt := by
  unfold loudF at z
  rw [Bool.and_eq_true, decide_eq_true_eq] at z
  exact z.1
/-- the class: who sounds -/
theorem la_10 (c25 : wT T * gT T ≤ 25) (sc : SCR (wT T * gT T) G f a h) (rv : RVR (wT T * gT T) G f) : ∀ (n : Nat) (l2 l3 l4 : Int32) (p : Nat), 0 ≤ l3.toInt → l3.toInt ≤ p → p ≤ 32 → (∀ j, j < 32 → bt l4 j = (decide (p ≤ j) && (decide (j < wT T * gT T) && decide (0 < (f j).toInt)))) → (∀ j, j < 32 → bt l2 j = (decide (j < p) && (decide (j < wT T * gT T) && loudF f j x1))) → Pc (W_X8_loudAt n 10 h a x1 l2 l3 l4) (fun q => q.2 = h ∧ ∀ j, j < 32 → bt q.1 j = (decide (j < wT T * gT T) && loudF f j x1)) := by
  intro n
  induction n with
  | zero => intro l2 l3 l4 p a1 a2 a3 b4 b2; exact Pc.no
  | succ n ih =>
    intro l2 l3 l4 p a1 a2 a3 b4 b2
    have f1 := lit_1
    have f25 := lit_25
    rw [u_X8_loudAt]
    refine Pc.pos rfl ?_
    have fin (z : ∀ j, p ≤ j → j < wT T * gT T → ¬ 0 < (f j).toInt) : ∀ j, j < 32 → bt l2 j = (decide (j < wT T * gT T) && loudF f j x1) := by
      intro j hj
      rw [b2 j hj]
      by_cases y : j < p
      · rw [decide_eq_true y, Bool.true_and]
      · rw [decide_eq_false y, Bool.false_and]
        by_cases y2 : j < wT T * gT T
        · have : loudF f j x1 = false := by
            cases e : loudF f j x1 with
            | false => rfl
            | true => exact absurd (ld_pos e) (z j (by omega) y2)
          rw [this, Bool.and_false]
        · rw [decide_eq_false y2, Bool.false_and]
    refine Pc.le (fun z => Pc.ret ⟨rfl, fin (fun j h1 h2 => by exfalso; omega)⟩) (fun z => ?_)
    refine Pc.ite (fun e0 => Pc.ret ⟨rfl, fin (fun j h1 h2 w => ?_)⟩) (fun e0 => ?_)
    · have := b4 j (by omega)
      rw [e0, bt_zero, decide_eq_true h1, decide_eq_true h2, decide_eq_true w] at this
      exact absurd this (by decide)
    obtain ⟨i, i32, i1, i2⟩ := bt_low e0
    have b1 := b4 i i32
    rw [i1] at b1
    have pq : p ≤ i ∧ i < wT T * gT T ∧ 0 < (f i).toInt := by
      have := b1.symm
      rw [Bool.and_eq_true, Bool.and_eq_true, decide_eq_true_eq, decide_eq_true_eq, decide_eq_true_eq] at this
      exact this
    refine Pc.bind pc_lowest (fun q3 h3 => ?_)
    obtain ⟨t1, -, t3⟩ := h3
    have hx := t3 i i32 i1 i2
    rw [t1]
    refine Pc.bind (so_c sc rv c25 (b := i) pq.2.1 hx (x2 := x1)) (fun q5 h5 => ?_)
    obtain ⟨t4, t5⟩ := h5
    have a6 := adT l3 1 (by omega) (by omega)
    have b4' : ∀ j, j < 32 → bt (l4 &&& (l4 - 1)) j = (decide (i + 1 ≤ j) && (decide (j < wT T * gT T) && decide (0 < (f j).toInt))) := by
      intro j hj
      rw [lo_clr i32 i1 i2 j]
      by_cases y : j = i
      · rw [decide_eq_true y, decide_eq_false (show ¬ i + 1 ≤ j by omega), Bool.not_true, Bool.and_false, Bool.false_and]
      · rw [decide_eq_false y, Bool.not_false, Bool.and_true]
        by_cases y2 : j < i
        · rw [i2 j y2, decide_eq_false (show ¬ i + 1 ≤ j by omega), Bool.false_and]
        · rw [b4 j hj, decide_eq_true (show p ≤ j by omega), decide_eq_true (show i + 1 ≤ j by omega)]
    -- between p and i nobody sounds
    have gap (j : Nat) (h1 : p ≤ j) (h2 : j < i) : (decide (j < wT T * gT T) && loudF f j x1) = false := by
      have := b4 j (by omega)
      rw [i2 j h2, decide_eq_true h1, Bool.true_and] at this
      cases e : loudF f j x1 with
      | false => rw [Bool.and_false]
      | true =>
        rw [decide_eq_true (ld_pos e), Bool.and_true] at this
        rw [← this, Bool.false_and]
    rw [t4, t5]
    by_cases w : loudF f i x1 = true
    · rw [if_pos w]
      refine Pc.ite (fun y => absurd y (by decide)) (fun _ => ih _ (l3 + 1) _ (i + 1) (by omega) (by omega) (by omega) b4' (fun j hj => ?_))
      rw [bt_or, bt_iso i32 i1 i2, b2 j hj]
      by_cases y : j = i
      · rw [y, w, decide_eq_true (show i = i from rfl), decide_eq_true (show i < i + 1 by omega), decide_eq_true pq.2.1, Bool.or_true]
        rfl
      · rw [decide_eq_false y, Bool.or_false]
        by_cases y2 : j < p
        · rw [decide_eq_true y2, decide_eq_true (show j < i + 1 by omega)]
        · by_cases y3 : j < i
          · rw [gap j (by omega) y3, Bool.and_false, Bool.and_false]
          · rw [decide_eq_false y2, decide_eq_false (show ¬ j < i + 1 by omega)]
    · rw [if_neg w]
      refine Pc.ite (fun _ => ih _ (l3 + 1) _ (i + 1) (by omega) (by omega) (by omega) b4' (fun j hj => ?_)) (fun y => absurd rfl y)
      rw [b2 j hj]
      by_cases y2 : j < p
      · rw [decide_eq_true y2, decide_eq_true (show j < i + 1 by omega)]
      · by_cases y3 : j < i
        · rw [gap j (by omega) y3, Bool.and_false, Bool.and_false]
        · by_cases y : j = i
          · rw [y, Bool.eq_false_iff.mpr w, Bool.and_false, Bool.and_false, Bool.and_false]
          · rw [decide_eq_false y2, decide_eq_false (show ¬ j < i + 1 by omega)]
theorem la_c (c25 : wT T * gT T ≤ 25) (sc : SCR (wT T * gT T) G f a h) (rv : RVR (wT T * gT T) G f) : Pc (F_X8_loudAt n h a x1) (fun q => q.2 = h ∧ ∀ j, j < 32 → bt q.1 j = (decide (j < wT T * gT T) && loudF f j x1)) := by
  unfold F_X8_loudAt
  have f0 := lit_0
  refine la_10 c25 sc rv n 0 0 _ 0 (by omega) (by omega) (by decide) (fun j hj => ?_) (fun j hj => ?_)
  · rw [decide_eq_true (Nat.zero_le j), Bool.true_and]
    have := sc.2.1 j hj
    cases e : bt (hi h a 3) j with
    | true => rw [decide_eq_true (this.mp e).1, decide_eq_true (this.mp e).2]; rfl
    | false =>
      by_cases y : j < wT T * gT T
      · rw [decide_eq_true y, decide_eq_false (fun z => by rw [this.mpr ⟨y, z⟩] at e; exact absurd e (by decide))]; rfl
      · rw [decide_eq_false y]; rfl
  · rw [bt_zero, decide_eq_false (Nat.not_lt_zero j), Bool.false_and]
/-- the reference: who sounds -/
theorem lb_4 (v : VT T) (e : EN2 s T h) : ∀ (n : Nat) (l2 l3 : Int32) (i : Nat), l3.toInt = (i : Int) → i ≤ wT T * gT T → (∀ j, j < 32 → bt l2 j = (decide (j < i) && loudF (hi h 263) j x1)) → Pc (W_X12_loudBits n 4 h x1 l2 l3) (fun q => q.2 = h ∧ ∀ j, j < 32 → bt q.1 j = (decide (j < wT T * gT T) && loudF (hi h 263) j x1)) := by
  intro n
  have c25 := (wg_T v).1
  induction n with
  | zero => intro l2 l3 i a b c; exact Pc.no
  | succ n ih =>
    intro l2 l3 i a b c
    have f1 := lit_1
    rw [u_X12_loudBits]
    refine Pc.pos rfl ?_
    refine Pc.bind (ce_r v e) (fun q1 h1 => ?_)
    obtain ⟨t1, t2⟩ := h1
    rw [t1]
    refine Pc.le (fun z => Pc.ret ⟨rfl, ?_⟩) (fun z => ?_)
    · have : i = wT T * gT T := by omega
      rw [← this]
      exact c
    have a1 := adT l3 1 (by omega) (by omega)
    refine Pc.bind (il_r (b := i) (by omega) a) (fun q4 h4 => ?_)
    obtain ⟨t3, t4⟩ := h4
    rw [t3, t4]
    have st (y : Bool) (hy : y = loudF (hi h 263) i x1) (l2' : Int32) (hl : ∀ j, j < 32 → bt l2' j = (bt l2 j || (y && decide (j = i)))) : ∀ j, j < 32 → bt l2' j = (decide (j < i + 1) && loudF (hi h 263) j x1) := by
      intro j hj
      rw [hl j hj, c j hj]
      by_cases w : j = i
      · rw [w, hy, decide_eq_false (Nat.lt_irrefl i), decide_eq_true (show i < i + 1 by omega), decide_eq_true (show i = i from rfl), Bool.false_and, Bool.false_or, Bool.and_true, Bool.true_and]
      · rw [decide_eq_false w, Bool.and_false, Bool.or_false]
        by_cases w2 : j < i
        · rw [decide_eq_true w2, decide_eq_true (show j < i + 1 by omega)]
        · rw [decide_eq_false w2, decide_eq_false (show ¬ j < i + 1 by omega)]
    by_cases w : loudF (hi h 263) i x1 = true
    · rw [if_pos w]
      exact Pc.ite (fun y => absurd y (by decide)) (fun _ => ih _ (l3 + 1) (i + 1) (by omega) (by omega) (st true w.symm _ (fun j hj => by rw [bt_add a (by omega), Bool.true_and])))
    · rw [if_neg w]
      exact Pc.ite (fun _ => ih _ (l3 + 1) (i + 1) (by omega) (by omega) (st false (Bool.eq_false_iff.mpr w).symm _ (fun j hj => by rw [Bool.false_and, Bool.or_false]))) (fun y => absurd rfl y)
theorem lb_r (v : VT T) (e : EN2 s T h) : Pc (F_X12_loudBits n h x1) (fun q => q.2 = h ∧ ∀ j, j < 32 → bt q.1 j = (decide (j < wT T * gT T) && loudF (hi h 263) j x1)) := by
  unfold F_X12_loudBits
  exact lb_4 v e n 0 0 0 lit_0 (Nat.zero_le _) (fun j _ => by rw [bt_zero, decide_eq_false (Nat.not_lt_zero j), Bool.false_and])
end RYA
end
section
/-! ASKS, alike in both: cell, goer, loud, together, silence, chorus -/
section RYB0
variable {A A' B B' : Option (Int32 × Hp)}
theorem J2.yn {y1 y2 : Int32} {P : Prop} (a : YN y1 P) (b : YN y2 P) (k1 : ¬ P → J2 A B) (k2 : P → J2 A' B') : J2 (if y1 = 0 then A else A') (if y2 = 0 then B else B') := by
  rcases a with ⟨a1, a2⟩ | ⟨a1, a2⟩
  · rcases b with ⟨b1, -⟩ | ⟨-, b2⟩
    · rw [a1, b1]; exact J2.pl rfl (J2.pr rfl (k1 a2))
    · exact absurd b2 a2
  · rcases b with ⟨-, b2⟩ | ⟨b1, -⟩
    · exact absurd a2 b2
    · rw [a1, b1]; exact J2.ml (by decide) (J2.mr (by decide) (k2 a2))
theorem J2.itn {c d : Prop} [Decidable c] [Decidable d] (e : c ↔ ¬ d) (k1 : c → J2 A B') (k2 : ¬ c → J2 A' B) : J2 (if c then A else A') (if d then B else B') := by
  by_cases y : c
  · rw [if_pos y, if_neg (e.mp y)]; exact k1 y
  · rw [if_neg y, if_pos (Classical.byContradiction (fun z => y (e.mpr z)))]; exact k2 y
end RYB0
theorem ad1_sb (a b : Int32) : (a + 1) - b = (a - b) + 1 := by
  rw [Int32.sub_eq_add_neg, Int32.sub_eq_add_neg, Int32.add_assoc, Int32.add_assoc, Int32.add_comm 1]
theorem le_nlt {a b : Int32} : a ≤ b ↔ ¬ b < a := by
  rw [Int32.le_iff_toInt_le, Int32.lt_iff_toInt_lt]
  omega
theorem nz_iff {a b : Int32} {P : Prop} (ha : a.toInt ≠ 0 ↔ P) (hb : b.toInt ≠ 0 ↔ P) : a = 0 ↔ b = 0 := by
  have f0 := lit_0
  have k (x : Int32) : x = 0 ↔ ¬ x.toInt ≠ 0 := ⟨fun z w => w (by rw [z]; exact f0), fun z => Int32.toInt_inj.mp ((Classical.not_not.mp z).trans f0.symm)⟩
  rw [k a, k b, ha, hb]
section RYB
variable {s : Nat} {T : TT} {h h0 q g : Hp} {n n1 n2 : Nat} {x1 x2 x3 : Int32} {f : Nat → Int32}
theorem je_cell (r : RLs s T h0) (k1 : ∀ a k, 226 ≤ a → hi q a k = hi h0 a k) : J2 (F_X11_cell n1 h0 x1 x2) (F_X12_cell n2 q x1 x2) := by
  obtain ⟨en, sd, e262, r59⟩ := r.ref k1
  have v := r.1.1
  have bd := r.1.2.1
  obtain ⟨c25, ⟨w2, w5⟩, ⟨g2, g5⟩, -, -⟩ := wg_T v
  have G5 := v.2.2.1.1
  have f0 := lit_0
  have f25 := lit_25
  unfold F_X11_cell F_X12_cell
  refine J2.bind (hs_c bd.1 w5 g5) (ic_r v en) (fun a b ha hb => ?_)
  obtain ⟨t1, t2⟩ := ha
  obtain ⟨u1, u2⟩ := hb
  rw [t1, u1]
  refine J2.yn t2 u2 (fun _ => J2.ret rfl) (fun z => ?_)
  obtain ⟨b, bc, hb⟩ := in_b z
  have n1' := ncT (show 0 ≤ x1.toInt by omega)
  have nb : Int32.toNatClampNeg x1 = b := by omega
  have a1 := adT 25 x1 (by omega) (by omega)
  have n3 := ncT (show 0 ≤ (25 + x1).toInt by omega)
  have n4 : Int32.toNatClampNeg (25 + x1) = 25 + b := by omega
  refine J2.br (cp_r en) (fun q4 cp => ?_)
  obtain ⟨sc, rv⟩ := r.row e262 cp.1
  have en4 := cp.en en
  refine J2.bl (tu_c sc (b := b) (by omega) hb) (fun y hy => ?_)
  obtain ⟨t4, t5, t6⟩ := hy
  rw [t4, nb, n4]
  have zt : y.1 = 0 ↔ hi q4 263 b = 0 := by
    refine ⟨fun z0 => rv_0 rv (by omega) (fun w => t6.mpr w z0), fun z0 => Classical.byContradiction (fun w => ?_)⟩
    have := (t6.mp w).2
    rw [z0, f0] at this
    exact absurd this (by decide)
  refine J2.ite Iff.rfl (fun _ => J2.cr (fun _ => J2.ite zt (fun _ => J2.ret rfl) (fun _ => ?_))) (fun _ => ?_)
  · exact J2.bl (be_c sc rv (b := b) (by omega) hb) (fun x hx => J2.cr (fun _ => J2.ret hx.2))
  refine J2.ite Iff.rfl (fun _ => J2.cr (fun _ => J2.ite zt (fun _ => J2.ret rfl) (fun w => ?_))) (fun _ => ?_)
  · exact J2.bl (of_c sc rv (b := b) bc c25 (t6.mp w).2 hb) (fun x hx => J2.cr (fun _ => J2.ret hx.2))
  refine J2.ite Iff.rfl (fun _ => ?_) (fun _ => ?_)
  · rw [sc.1.1]
    exact J2.bind (so_c sc rv c25 (b := b) bc hb) (il_r (b := b) (by omega) hb) (fun x y hx hy => J2.ite (by rw [hx.2, hy.2]) (fun _ => J2.ret rfl) (fun _ => J2.ret rfl))
  refine J2.ite Iff.rfl (fun _ => ?_) (fun _ => ?_)
  · exact J2.bind (ro_c sc (b := b) (by omega) hb) (ir_r (b := b) (by omega) hb) (fun x y hx hy => J2.ite (by rw [hx.2, hy.2]) (fun _ => J2.ret rfl) (fun _ => J2.ret rfl))
  refine J2.ite Iff.rfl (fun _ => ?_) (fun _ => ?_)
  · exact J2.bind (gi_c G5 sc bd.2.1.1) (wa_r v en4) (fun x y hx hy => J2.ret (bt_ext (fun j hj => by rw [hx.2 j hj, hy.2 j hj])))
  refine J2.ite Iff.rfl (fun _ => ?_) (fun _ => J2.ret rfl)
  exact J2.bind (co_c v bd sc rv (by decide) (b := b) bc hb) (co_r v en4 (b := b) bc hb) (fun x y hx hy => J2.ret (hx.trans hy.symm))
theorem so_r (v : VT T) (e : EN2 s T h) (sd : SD5 T h) (rv : RVR (wT T * gT T) T.go.length (hi h 263)) {g : Nat} (gG : g < T.go.length) (hg : x1.toInt = (g : Int)) : Pc (F_X12_stepOf n h x1) (fun q => q.1.toInt = ((stF T (hi h 263) (hi h 263 (51 + g)).toInt.toNat (hi h 263 (56 + g)) x1 0 : Nat) : Int)) := by
  have G5 := v.2.2.1.1
  have f51 := lit_51
  have a1 := adT 51 x1 (by omega) (by omega)
  have n3 := ncT (show 0 ≤ (51 + x1).toInt by omega)
  have n4 : Int32.toNatClampNeg (51 + x1) = 51 + g := by omega
  obtain ⟨⟨z1, z2⟩, z3⟩ := rv.2.2.1 g gG
  unfold F_X12_stepOf
  rw [n4]
  refine Pc.chk (fun _ => ?_)
  exact Pc.bind (wo_r v e sd (g := g) (b := (hi h 263 (51 + g)).toInt.toNat) (by omega) hg (by omega) (by omega) (k := 0) (by decide) lit_0 rfl) (fun q hq => Pc.ret hq)
theorem mo_r (v : VT T) (e : EN2 s T h) (sd : SD5 T h) (rv : RVR (wT T * gT T) T.go.length (hi h 263)) {g : Nat} (gG : g < T.go.length) (hg : x1.toInt = (g : Int)) : Pc (F_X12_moveOf n h x1) (fun q => q.1.toInt = ((stF T (hi h 263) (hi h 263 (51 + g)).toInt.toNat (hi h 263 (56 + g)) x1 1 : Nat) : Int)) := by
  have G5 := v.2.2.1.1
  have f51 := lit_51
  have a1 := adT 51 x1 (by omega) (by omega)
  have n3 := ncT (show 0 ≤ (51 + x1).toInt by omega)
  have n4 : Int32.toNatClampNeg (51 + x1) = 51 + g := by omega
  obtain ⟨⟨z1, z2⟩, z3⟩ := rv.2.2.1 g gG
  unfold F_X12_moveOf
  rw [n4]
  refine Pc.chk (fun _ => ?_)
  exact Pc.bind (wo_r v e sd (g := g) (b := (hi h 263 (51 + g)).toInt.toNat) (by omega) hg (by omega) (by omega) (k := 1) (by decide) lit_1 rfl) (fun q hq => Pc.ret hq)
theorem je_goer (r : RLs s T h0) (k1 : ∀ a k, 226 ≤ a → hi q a k = hi h0 a k) : J2 (F_X11_goer n1 h0 x1 x2) (F_X12_goer n2 q x1 x2) := by
  obtain ⟨en, sd, e262, r59⟩ := r.ref k1
  have v := r.1.1
  have bd := r.1.2.1
  have c25 := (wg_T v).1
  have G5 := v.2.2.1.1
  have f0 := lit_0
  have f1 := lit_1
  have f51 := lit_51
  have f56 := lit_56
  unfold F_X11_goer F_X12_goer
  refine J2.bind (hg_c bd G5) (ig_r v en) (fun a b ha hb => ?_)
  obtain ⟨t1, t2⟩ := ha
  obtain ⟨u1, u2⟩ := hb
  rw [t1, u1]
  refine J2.yn t2 u2 (fun _ => J2.ret rfl) (fun z => ?_)
  obtain ⟨g, gG, hg⟩ := in_b z
  have n1' := ncT (show 0 ≤ x1.toInt by omega)
  have nb : Int32.toNatClampNeg x1 = g := by omega
  have a1 := adT 51 x1 (by omega) (by omega)
  have n3 := ncT (show 0 ≤ (51 + x1).toInt by omega)
  have n4 : Int32.toNatClampNeg (51 + x1) = 51 + g := by omega
  have a2 := adT 56 x1 (by omega) (by omega)
  have n5 := ncT (show 0 ≤ (56 + x1).toInt by omega)
  have n6 : Int32.toNatClampNeg (56 + x1) = 56 + g := by omega
  refine J2.br (cp_r en) (fun q4 cp => ?_)
  obtain ⟨sc, rv⟩ := r.row e262 cp.1
  have en4 := cp.en en
  have sd4 := cp.sd sd
  obtain ⟨s1, s2⟩ := sc.2.2.2 g gG
  rw [nb, n4, n6]
  refine J2.ite Iff.rfl (fun _ => J2.cl (fun _ => J2.cr (fun _ => J2.ret s1))) (fun _ => ?_)
  refine J2.ite Iff.rfl (fun _ => J2.cl (fun _ => J2.cr (fun _ => J2.ret s2))) (fun _ => ?_)
  refine J2.ite Iff.rfl (fun _ => ?_) (fun _ => ?_)
  · exact J2.bind (wt_c v bd sc rv (by decide) gG hg (k := 0) (by decide) f0) (so_r v en4 sd4 rv gG hg) (fun x y hx hy => J2.ret (Int32.toInt_inj.mp (hx.trans hy.symm)))
  refine J2.ite Iff.rfl (fun _ => ?_) (fun _ => J2.ret rfl)
  exact J2.bind (wt_c v bd sc rv (by decide) gG hg (k := 1) (by decide) f1) (mo_r v en4 sd4 rv gG hg) (fun x y hx hy => J2.ret (Int32.toInt_inj.mp (hx.trans hy.symm)))
theorem je_loud (r : RLs s T h0) (k1 : ∀ a k, 226 ≤ a → hi q a k = hi h0 a k) : J2 (F_X11_loud n1 h0 x1) (F_X12_loud n2 q x1) := by
  obtain ⟨en, sd, e262, r59⟩ := r.ref k1
  have v := r.1.1
  have c25 := (wg_T v).1
  unfold F_X11_loud F_X12_loud
  refine J2.bind sp_c sp_r (fun a b ha hb => ?_)
  obtain ⟨t1, t2⟩ := ha
  obtain ⟨u1, u2⟩ := hb
  rw [t1, u1]
  refine J2.yn t2 u2 (fun _ => J2.ret rfl) (fun z => ?_)
  refine J2.br (cp_r en) (fun q4 cp => ?_)
  obtain ⟨sc, rv⟩ := r.row e262 cp.1
  rw [sc.1.1]
  exact J2.bind (la_c c25 sc rv) (lb_r v (cp.en en)) (fun x y hx hy => J2.ret (bt_ext (fun j hj => by rw [hx.2 j hj, hy.2 j hj])))
/-! together -/
theorem jt_tog (v : VT T) (sc : SCR (wT T * gT T) T.go.length (hi g 263) 30 h) (rv : RVR (wT T * gT T) T.go.length (hi g 263)) {b1 b2 : Nat} (c1 : b1 < wT T * gT T) (c2 : b2 < wT T * gT T) (h1 : x1.toInt = (b1 : Int)) (h2 : x2.toInt = (b2 : Int)) : ∀ (n1 n2 : Nat) (l3 : Int32), J2 (W_X11_together n1 26 h x1 x2 l3) (W_X12_together n2 24 g x1 x2 l3) := by
  intro n1
  have c25 := (wg_T v).1
  induction n1 with
  | zero => intro n2 l3; exact J2.nl
  | succ n1 ih =>
    intro n2 l3
    cases n2 with
    | zero => exact J2.nr
    | succ n2 =>
      rw [u_X11_together, u_X12_together]
      refine J2.pl rfl (J2.pr rfl (J2.ite Iff.rfl (fun _ => J2.ret rfl) (fun _ => ?_)))
      rw [sc.1.1]
      refine J2.bind (so_c sc rv c25 c1 h1) (il_r (b := b1) (by omega) h1) (fun a b ha hb => ?_)
      obtain ⟨a2, a1⟩ := ha
      obtain ⟨b2', b1'⟩ := hb
      rw [a2, b2']
      refine J2.ite (by rw [a1, b1']) (fun _ => ih n2 (l3 + 1)) (fun _ => ?_)
      rw [sc.1.1]
      refine J2.bind (so_c sc rv c25 c2 h2) (il_r (b := b2) (by omega) h2) (fun a b ha hb => ?_)
      obtain ⟨a2, a1⟩ := ha
      obtain ⟨b2', b1'⟩ := hb
      rw [a2, b2']
      exact J2.ite (by rw [a1, b1']) (fun _ => ih n2 (l3 + 1)) (fun _ => J2.ret rfl)
theorem je_together (r : RLs s T h0) (k1 : ∀ a k, 226 ≤ a → hi q a k = hi h0 a k) : J2 (F_X11_together n1 h0 x1 x2) (F_X12_together n2 q x1 x2) := by
  obtain ⟨en, sd, e262, r59⟩ := r.ref k1
  have v := r.1.1
  have bd := r.1.2.1
  obtain ⟨c25, ⟨w2, w5⟩, ⟨g2, g5⟩, -, -⟩ := wg_T v
  unfold F_X11_together F_X12_together
  refine J2.bind (hs_c bd.1 w5 g5) (ic_r v en) (fun a b ha hb => ?_)
  obtain ⟨t1, t2⟩ := ha
  obtain ⟨u1, u2⟩ := hb
  rw [t1, u1]
  refine J2.yn t2 u2 (fun _ => J2.ret rfl) (fun z => ?_)
  refine J2.bind (hs_c bd.1 w5 g5) (ic_r v en) (fun a b ha hb => ?_)
  obtain ⟨t3, t4⟩ := ha
  obtain ⟨u3, u4⟩ := hb
  rw [t3, u3]
  refine J2.yn t4 u4 (fun _ => J2.ret rfl) (fun z2 => ?_)
  obtain ⟨b1, c1, h1⟩ := in_b z
  obtain ⟨b2, c2, h2⟩ := in_b z2
  refine J2.br (cp_r en) (fun q4 cp => ?_)
  obtain ⟨sc, rv⟩ := r.row e262 cp.1
  exact jt_tog v sc rv c1 c2 h1 h2 _ _ 0
/-! silence, chorus -/
theorem jt_sil (v : VT T) (en : EN2 s T g) (sc : SCR (wT T * gT T) T.go.length (hi g 263) 30 h) (rv : RVR (wT T * gT T) T.go.length (hi g 263)) : ∀ (n1 n2 : Nat) (l2 l3 l4 l5 : Int32), J2 (W_X11_silence n1 20 h x1 l2 l3 l4 l5) (W_X12_silence n2 26 g x1 l2 l3 l4 l5) := by
  intro n1
  have c25 := (wg_T v).1
  induction n1 with
  | zero => intro n2 l2 l3 l4 l5; exact J2.nl
  | succ n1 ih =>
    intro n2 l2 l3 l4 l5
    cases n2 with
    | zero => exact J2.nr
    | succ n2 =>
      rw [u_X11_silence, u_X12_silence]
      refine J2.pl rfl (J2.pr rfl (J2.ite Iff.rfl (fun _ => J2.ite Iff.rfl (fun _ => J2.ret rfl) (fun _ => J2.ret rfl)) (fun _ => ?_)))
      rw [sc.1.1]
      refine J2.bind (la_c c25 sc rv) (lb_r v en) (fun a b ha hb => ?_)
      obtain ⟨a2, a1⟩ := ha
      obtain ⟨b2, b1⟩ := hb
      have e : a.1 = b.1 := bt_ext (fun j hj => by rw [a1 j hj, b1 j hj])
      rw [a2, b2, e]
      refine J2.ite Iff.rfl (fun _ => ?_) (fun _ => ?_)
      · refine J2.itn le_nlt (fun _ => ih n2 _ _ _ _) (fun _ => ?_)
        rw [ad1_sb]
        exact ih n2 _ _ _ _
      · refine J2.itn le_nlt (fun _ => ih n2 _ _ _ _) (fun _ => ?_)
        rw [ad1_sb]
        exact ih n2 _ _ _ _
theorem nn_iff {a b : Int32} (ha : a.toInt ≠ 0 ↔ 0 ≤ x1.toInt ∧ x1.toInt ≤ 1) (hb : b.toInt ≠ 0 ↔ (0 : Int32).toInt ≤ x1.toInt ∧ x1.toInt ≤ (1 : Int32).toInt) : a = 0 ↔ b = 0 := by
  rw [lit_0, lit_1] at hb
  exact nz_iff ha hb
theorem je_silence (r : RLs s T h0) (k1 : ∀ a k, 226 ≤ a → hi q a k = hi h0 a k) : J2 (F_X11_silence n1 h0 x1) (F_X12_silence n2 q x1) := by
  obtain ⟨en, sd, e262, r59⟩ := r.ref k1
  have v := r.1.1
  unfold F_X11_silence F_X12_silence
  refine J2.bind ez_nought ez_in (fun a b ha hb => ?_)
  obtain ⟨t1, t2⟩ := ha
  obtain ⟨u1, u2⟩ := hb
  rw [t1, u1]
  refine J2.ite (nn_iff t2 u2) (fun _ => J2.ret rfl) (fun _ => ?_)
  refine J2.br (cp_r en) (fun q4 cp => ?_)
  obtain ⟨sc, rv⟩ := r.row e262 cp.1
  exact jt_sil v (cp.en en) sc rv _ _ 0 (-2) 0 0
theorem jt_cho (v : VT T) (en : EN2 s T g) (sc : SCR (wT T * gT T) T.go.length (hi g 263) 30 h) (rv : RVR (wT T * gT T) T.go.length (hi g 263)) : ∀ (n1 n2 : Nat) (l2 l3 l4 : Int32), J2 (W_X11_chorus n1 16 h x1 l2 l3 l4) (W_X12_chorus n2 22 g x1 l2 l3 l4) := by
  intro n1
  have c25 := (wg_T v).1
  induction n1 with
  | zero => intro n2 l2 l3 l4; exact J2.nl
  | succ n1 ih =>
    intro n2 l2 l3 l4
    cases n2 with
    | zero => exact J2.nr
    | succ n2 =>
      rw [u_X11_chorus, u_X12_chorus]
      refine J2.pl rfl (J2.pr rfl (J2.ite Iff.rfl (fun _ => J2.ite Iff.rfl (fun _ => J2.ret rfl) (fun _ => J2.ret rfl)) (fun _ => ?_)))
      rw [sc.1.1]
      refine J2.bind (la_c c25 sc rv) (lb_r v en) (fun a b ha hb => ?_)
      obtain ⟨a2, a1⟩ := ha
      obtain ⟨b2, b1⟩ := hb
      have e : a.1 = b.1 := bt_ext (fun j hj => by rw [a1 j hj, b1 j hj])
      rw [a2, b2, e]
      refine J2.bind pc_bits bi_r (fun x y hx hy => ?_)
      obtain ⟨x2', x1'⟩ := hx
      obtain ⟨y2', y1'⟩ := hy
      have ct : cntB (bt b.1) 32 = cntB (bt b.1) 25 := cntB_skip (by decide) (fun m h1 h2 => by rw [b1 m h2, decide_eq_false (show ¬ m < wT T * gT T by omega), Bool.false_and])
      have exy : x.1 = y.1 := Int32.toInt_inj.mp (by rw [x1', y1', ct])
      rw [x2', y2', exy]
      exact J2.itn le_nlt (fun _ => ih n2 _ _ _) (fun _ => ih n2 _ _ _)
theorem je_chorus (r : RLs s T h0) (k1 : ∀ a k, 226 ≤ a → hi q a k = hi h0 a k) : J2 (F_X11_chorus n1 h0 x1) (F_X12_chorus n2 q x1) := by
  obtain ⟨en, sd, e262, r59⟩ := r.ref k1
  have v := r.1.1
  unfold F_X11_chorus F_X12_chorus
  refine J2.bind ez_nought ez_in (fun a b ha hb => ?_)
  obtain ⟨t1, t2⟩ := ha
  obtain ⟨u1, u2⟩ := hb
  rw [t1, u1]
  refine J2.ite (nn_iff t2 u2) (fun _ => J2.ret rfl) (fun _ => ?_)
  refine J2.br (cp_r en) (fun q4 cp => ?_)
  obtain ⟨sc, rv⟩ := r.row e262 cp.1
  exact jt_cho v (cp.en en) sc rv _ _ (-1) 0 0
end RYB
section RYBe
variable {h0 : Hp} {n1 n2 : Nat} {x1 x2 x3 : Int32} {q1 q2 : Int32 × Hp}
theorem eq_cell (w : Ir h0) (e1 : F_X11_cell n1 h0 x1 x2 = some q1) (e2 : F_X12_cell n2 q1.2 x1 x2 = some q2) : q1.1 = q2.1 := by
  obtain ⟨s, T, r⟩ := w.2
  exact je_cell r (frZ.hr (zf_X11_cell q1 e1) (fun x k z => by omega)) q1 q2 e1 e2
theorem eq_goer (w : Ir h0) (e1 : F_X11_goer n1 h0 x1 x2 = some q1) (e2 : F_X12_goer n2 q1.2 x1 x2 = some q2) : q1.1 = q2.1 := by
  obtain ⟨s, T, r⟩ := w.2
  exact je_goer r (frZ.hr (zf_X11_goer q1 e1) (fun x k z => by omega)) q1 q2 e1 e2
theorem eq_loud (w : Ir h0) (e1 : F_X11_loud n1 h0 x1 = some q1) (e2 : F_X12_loud n2 q1.2 x1 = some q2) : q1.1 = q2.1 := by
  obtain ⟨s, T, r⟩ := w.2
  exact je_loud r (frZ.hr (zf_X11_loud q1 e1) (fun x k z => z.elim)) q1 q2 e1 e2
theorem eq_together (w : Ir h0) (e1 : F_X11_together n1 h0 x1 x2 = some q1) (e2 : F_X12_together n2 q1.2 x1 x2 = some q2) : q1.1 = q2.1 := by
  obtain ⟨s, T, r⟩ := w.2
  exact je_together r (frZ.hr (zf_X11_together q1 e1) (fun x k z => z.elim)) q1 q2 e1 e2
theorem eq_silence (w : Ir h0) (e1 : F_X11_silence n1 h0 x1 = some q1) (e2 : F_X12_silence n2 q1.2 x1 = some q2) : q1.1 = q2.1 := by
  obtain ⟨s, T, r⟩ := w.2
  exact je_silence r (frZ.hr (zf_X11_silence q1 e1) (fun x k z => z.elim)) q1 q2 e1 e2
theorem eq_chorus (w : Ir h0) (e1 : F_X11_chorus n1 h0 x1 = some q1) (e2 : F_X12_chorus n2 q1.2 x1 = some q2) : q1.1 = q2.1 := by
  obtain ⟨s, T, r⟩ := w.2
  exact je_chorus r (frZ.hr (zf_X11_chorus q1 e1) (fun x k z => z.elim)) q1 q2 e1 e2
end RYBe
end
