/-! WHAT IS DONE BY HAND: mow, rope, in both -/
/-- a rope behind it -/
def rpF (f : Nat → Int32) (x1 : Int32) : Nat → Int32 := upF f 50 (f 50 ^^^ ((1 : Int32) <<< (x1 &&& 31)))
def MWO (T : TT) (f : Nat → Int32) (x1 : Int32) (b : Nat) : Prop := (b < wT T * gT T ∧ x1.toInt = (b : Int)) ∧ 0 < (f b).toInt
def RPO (T : TT) (f : Nat → Int32) (x1 x2 : Int32) (b : Nat) : Prop := (b < wT T * gT T ∧ x1.toInt = (b : Int)) ∧ (if bt (f 50) b = true then (1 : Int32) else 0) ≠ x2 ∧ (∀ k, k < T.go.length → f (51 + k) ≠ x1) ∧ (x2 = 0 ∨ ¬ 0 < (f b).toInt)
theorem bt_xor (x y : Int32) (i : Nat) : bt (x ^^^ y) i = (bt x i ^^ bt y i) := by
  unfold bt
  rw [Int32.toBitVec_xor, BitVec.getLsbD_xor]
theorem gi_0 {y : Int32} {G : Nat} {p : Nat → Bool} (G5 : G ≤ 5) (e : ∀ j, j < 32 → bt y j = (decide (j < G) && p j)) : y = 0 ↔ ∀ k, k < G → p k = false := by
  refine ⟨fun z k hk => ?_, fun z => bt_ext (fun i hi' => ?_)⟩
  · have := e k (by omega)
    rw [z, bt_zero, decide_eq_true hk, Bool.true_and] at this
    exact this.symm
  · rw [e i hi', bt_zero]
    by_cases y : i < G
    · rw [z i y, Bool.and_false]
    · rw [decide_eq_false y, Bool.false_and]
section R56S
variable {s G c : Nat} {T : TT} {h h0 q : Hp} {n : Nat} {x1 x2 x3 : Int32} {f f' : Nat → Int32} {a : Nat}
theorem hu_c : Pc (F_X8_hush n h a x1) (fun q => q = wrI h a 3 (hi h a 3 &&& (((1 : Int32) <<< (x1 &&& 31)) ^^^ (-1)))) := by
  unfold F_X8_hush
  exact Pc.ret rfl
theorem in_b (z : inN c x1) : ∃ b : Nat, b < c ∧ x1.toInt = (b : Int) := by
  obtain ⟨z1, z2⟩ := z
  exact ⟨x1.toInt.toNat, by omega, by omega⟩
theorem in_n {b : Nat} (z : ¬ inN c x1) (h1 : b < c) (h2 : x1.toInt = (b : Int)) : False := z ⟨by omega, by omega⟩
theorem mw_c (v : VT T) (bd : BDF T 23 h) (sc : SCR (wT T * gT T) T.go.length f 30 h) (rv : RVR (wT T * gT T) T.go.length f) (r : 0 ≤ (hi h 38 1).toInt ∧ (hi h 38 1).toInt ≤ 39) : Pc (F_X11_mow n h x1) (fun q => ((∀ b, ¬ MWO T f x1 b) ∧ q.1 = -1 ∧ q.2 = h) ∨ ∃ b, MWO T f x1 b ∧ q.1 = coF T f b ∧ DNc T (mwF T f b) h q.2) := by
  obtain ⟨c25, ⟨w2, w5⟩, ⟨g2, g5⟩, -, -⟩ := wg_T v
  have G5 := v.2.2.1.1
  unfold F_X11_mow
  refine Pc.bind (hs_c bd.1 w5 g5) (fun q1 h1 => ?_)
  obtain ⟨t1, t2⟩ := h1
  rw [t1]
  rcases t2 with ⟨y, z⟩ | ⟨y, z⟩
  · rw [y]
    exact Pc.pos rfl (Pc.ret (Or.inl ⟨fun b w => in_n z w.1.1 w.1.2, rfl, rfl⟩))
  rw [y]
  refine Pc.neg (by decide) ?_
  obtain ⟨b, bc, hb⟩ := in_b z
  refine Pc.bind (tu_c sc (b := b) (by omega) hb) (fun q4 h4 => ?_)
  obtain ⟨t4, t5, t6⟩ := h4
  rw [t4]
  refine Pc.ite (fun z0 => Pc.ret (Or.inl ⟨fun b' w => ?_, rfl, rfl⟩)) (fun z0 => ?_)
  · have e : b' = b := by have := w.1.2; omega
    subst e
    exact t6.mpr ⟨bc, w.2⟩ z0
  obtain ⟨-, pos⟩ := t6.mp z0
  refine Pc.bind (kp_c r) (fun q7 kc => ?_)
  have fr (a k : Nat) (h1 : a < 38) : hi q7 a k = hi h a k := kc.fr a k (by omega) (by omega)
  have bd7 : BDF T 23 q7 := bd.at (fun y k h1 h2 => fr y k (by omega))
  have sc7 : SCR (wT T * gT T) T.go.length f 30 q7 := sc.to c25 G5 (fun j _ => fr 30 j (by decide)) (fun j _ => fr 31 j (by decide)) (fun j _ => fr 32 j (by decide)) (fun j _ => fr 33 j (by decide))
  refine Pc.bind (fun y e => And.intro (co_c v bd7 sc7 rv (by decide) (b := b) bc hb y e) (zf_X0_costOf y e)) (fun q9 h9 => ?_)
  obtain ⟨t7, z9⟩ := h9
  have r9 (x j : Nat) (n1 : x ≠ 28) (n2 : x ≠ 29) : hi q9.2 x j = hi q7 x j := z9.1 x j (by omega)
  have sc9 : SCR (wT T * gT T) T.go.length f 30 q9.2 := sc7.to c25 G5 (fun j _ => r9 30 j (by decide) (by decide)) (fun j _ => r9 31 j (by decide) (by decide)) (fun j _ => r9 32 j (by decide) (by decide)) (fun j _ => r9 33 j (by decide) (by decide))
  have e62 : hi q9.2 30 1 = f 62 := sc9.1.2.1
  rw [e62, t7]
  refine Pc.bind hu_c (fun q11 h11 => Pc.ret (Or.inr ⟨b, ⟨⟨bc, hb⟩, pos⟩, rfl, q7, kc, fun a k h1 => ?_, ?_⟩))
  · show hi q11 a k = _
    rw [h11, hi_wrI, if_neg (by omega), hi_wrI, if_neg (by omega), r9 a k (by omega) (by omega)]
  · show SCR _ _ _ 30 q11
    rw [h11]
    exact (sc9.pd c25 G5).hu c25 G5 bc hb
theorem mw_r (v : VT T) (e : EN2 s T h) (rv : RVR (wT T * gT T) T.go.length (hi h 262)) (r59 : 0 ≤ (hi h 226 59).toInt ∧ (hi h 226 59).toInt ≤ 40) : Pc (F_X12_mow n h x1) (fun q => ∃ f, RFW h f ∧ (((∀ b, ¬ MWO T f x1 b) ∧ q.1 = -1 ∧ frZ bgJ h q.2) ∨ ∃ b, MWO T f x1 b ∧ q.1 = coF T f b ∧ DNr (mwF T f b) h q.2)) := by
  have c25 := (wg_T v).1
  have f0 := lit_0
  have f25 := lit_25
  unfold F_X12_mow
  refine Pc.bind (ic_r v e) (fun q1 h1 => ?_)
  obtain ⟨t1, t2⟩ := h1
  rw [t1]
  rcases t2 with ⟨y, z⟩ | ⟨y, z⟩
  · rw [y]
    exact Pc.pos rfl (Pc.ret ⟨hi h 262, fun _ _ => rfl, Or.inl ⟨fun b w => in_n z w.1.1 w.1.2, rfl, frZ.rf h⟩⟩)
  rw [y]
  refine Pc.neg (by decide) (Pc.chk (fun _ => ?_))
  obtain ⟨b, bc, hb⟩ := in_b z
  have n1 := ncT (show 0 ≤ x1.toInt by omega)
  have n2 : Int32.toNatClampNeg x1 = b := by omega
  have a1 := adT 25 x1 (by omega) (by omega)
  have n3 := ncT (show 0 ≤ (25 + x1).toInt by omega)
  have n4 : Int32.toNatClampNeg (25 + x1) = 25 + b := by omega
  rw [n2, n4]
  have rb := (rv.1 b (by omega)).2.1
  refine Pc.ite (fun z0 => Pc.ret ⟨hi h 262, fun _ _ => rfl, Or.inl ⟨fun b' w => ?_, rfl, frZ.rf h⟩⟩) (fun z0 => ?_)
  · have e : b' = b := by have := w.1.2; omega
    subst e
    have := w.2
    rw [z0, f0] at this
    exact absurd this (by decide)
  have pos : 0 < (hi h 262 b).toInt := by
    have : (hi h 262 b).toInt ≠ 0 := fun w => z0 (Int32.toInt_inj.mp (w.trans f0.symm))
    omega
  refine Pc.bind (cp_r e) (fun q6 cp => ?_)
  have e6 := cp.en e
  refine Pc.bind (fun y e' => And.intro (co_r v e6 (b := b) bc hb y e') (zf_X12_costsOf y e')) (fun q8 h8 => Pc.chk (fun _ => Pc.chk (fun _ => ?_)))
  obtain ⟨t7, z8⟩ := h8
  have e263 : hi q8.2 263 = hi q6 263 := funext (fun k => z8.1 263 k (by omega))
  rw [t7, e263]
  generalize eg : wrI (wrI (wrI q8.2 263 62 (hi q6 263 62 + coF T (hi q6 263) b)) 263 b 0) 263 (25 + b) 0 = hb'
  have row : hi hb' 263 = mwF T (hi q6 263) b := by
    rw [← eg, wr_up, wr_up, wr_up, e263]
    rfl
  have fb : frZ bgJ h hb' := by
    rw [← eg]
    exact (((cp.bg.tr (z8.sub (fun x k z => by unfold bgJ; omega))).w (by unfold bgJ; omega)).w (by unfold bgJ; omega)).w (by unfold bgJ; omega)
  refine Pc.bind (fun y e' => And.intro (kp_r (by rw [fb.1 226 59 (by unfold bgJ; omega)]; exact r59) y e') (zf_X12_records y e')) (fun q12 h12 => Pc.ret ⟨hi q6 263, cp.1, Or.inr ⟨b, ⟨⟨bc, hb⟩, by rw [cp.1 b (by omega)]; exact pos⟩, rfl, hb', fb, fun k _ => congrFun row k, h12.1, h12.2⟩⟩)
/-- mown by both -/
theorem mw_rl {q1 q2 : Int32 × Hp} {n1 n2 : Nat} (r : RLs s T h0) (e1 : F_X11_mow n1 h0 x1 = some q1) (e2 : F_X12_mow n2 q1.2 x1 = some q2) : q1.1 = q2.1 ∧ RLs s T q2.2 := by
  have k1 := frZ.hr (zf_X11_mow q1 e1) (fun x k z => by omega)
  have r0 := r
  obtain ⟨⟨v, bd, en, sd⟩, ⟨sc, rv⟩, -, -⟩ := r
  have c25 := (wg_T v).1
  have G5 := v.2.2.1.1
  obtain ⟨en1, sd1, e262, r59⟩ := r0.ref k1
  obtain ⟨f, rf, k⟩ := mw_r v en1 (by rw [e262]; exact rv) r59 q2 e2
  have rf0 (k : Nat) (hk : k < 63) : f k = hi h0 262 k := by rw [rf k hk, e262]
  have scf := sc.cg (g := f) c25 G5 rf0
  have rvf := rv.cg (g := f) G5 (fun k hk => rf0 k (by omega))
  rcases mw_c v bd scf rvf r0.rg q1 e1 with ⟨a1, a2, a3⟩ | ⟨b, a1, a2, a3⟩
  · rcases k with ⟨-, d2, d3⟩ | ⟨b', d1, -⟩
    · refine ⟨a2.trans d2.symm, r0.ke ?_⟩
      rw [a3] at d3
      exact rlK.z d3 (fun x k z => by unfold bgJ at z; unfold rlC; omega)
    · exact absurd d1 (a1 b')
  · rcases k with ⟨d1, -⟩ | ⟨b', d1, d2, d3⟩
    · exact absurd a1 (d1 b)
    · have e : b' = b := by have := a1.1.2; have := d1.1.2; omega
      subst e
      exact ⟨a2.trans d2.symm, r0.done k1 a3 d3 (rvf.mw c25 G5 a1.1.1)⟩
/-! who is there -/
theorem gi_5 {x2 : Int32} (G5 : G ≤ 5) (sc : SCR c G f a h) (hG : x2.toInt = (G : Int)) : ∀ (n : Nat) (l3 l4 : Int32) (i : Nat), l4.toInt = (i : Int) → i ≤ G → (∀ j, j < 32 → bt l3 j = (decide (j < i) && decide (f (51 + j) = x1))) → Pc (W_X8_goersIn n 5 h a x1 x2 l3 l4) (fun q => q.2 = h ∧ ∀ j, j < 32 → bt q.1 j = (decide (j < G) && decide (f (51 + j) = x1))) := by
  intro n
  induction n with
  | zero => intro l3 l4 i e1 e2 b; exact Pc.no
  | succ n ih =>
    intro l3 l4 i e1 e2 b
    have f1 := lit_1
    have f5 := lit_5
    rw [u_X8_goersIn]
    refine Pc.pos rfl ?_
    have fin (z : G ≤ i) : ∀ j, j < 32 → bt l3 j = (decide (j < G) && decide (f (51 + j) = x1)) := by
      have : i = G := by omega
      rw [← this]
      exact b
    refine Pc.le (fun z => Pc.ret ⟨rfl, fin (by omega)⟩) (fun z => Pc.le (fun z2 => Pc.ret ⟨rfl, fin (by omega)⟩) (fun z2 => Pc.chk (fun _ => ?_)))
    have n1 := ncT (show 0 ≤ l4.toInt by omega)
    have n2 : Int32.toNatClampNeg l4 = i := by omega
    have a1 := adT l4 1 (by omega) (by omega)
    rw [n2, (sc.2.2.2 i (by omega)).1]
    have st (y : Bool) (hy : y = decide (f (51 + i) = x1)) (l3' : Int32) (hl : ∀ j, j < 32 → bt l3' j = (bt l3 j || (y && decide (j = i)))) : ∀ j, j < 32 → bt l3' j = (decide (j < i + 1) && decide (f (51 + j) = x1)) := by
      intro j hj
      rw [hl j hj, b j hj]
      by_cases w : j = i
      · rw [w, hy, decide_eq_false (Nat.lt_irrefl i), decide_eq_true (show i < i + 1 by omega), decide_eq_true (show i = i from rfl), Bool.false_and, Bool.false_or, Bool.and_true, Bool.true_and]
      · rw [decide_eq_false w, Bool.and_false, Bool.or_false]
        by_cases w2 : j < i
        · rw [decide_eq_true w2, decide_eq_true (show j < i + 1 by omega)]
        · rw [decide_eq_false w2, decide_eq_false (show ¬ j < i + 1 by omega)]
    refine Pc.ite (fun z3 => ?_) (fun z3 => ?_)
    · exact ih _ (l4 + 1) (i + 1) (by omega) (by omega) (st true (decide_eq_true z3).symm _ (fun j hj => by rw [bt_add e1 (by omega), Bool.true_and]))
    · exact ih _ (l4 + 1) (i + 1) (by omega) (by omega) (st false (decide_eq_false z3).symm _ (fun j hj => by rw [Bool.false_and, Bool.or_false]))
theorem gi_c (G5 : G ≤ 5) (sc : SCR c G f a h) (hG : x2.toInt = (G : Int)) : Pc (F_X8_goersIn n h a x1 x2) (fun q => q.2 = h ∧ ∀ j, j < 32 → bt q.1 j = (decide (j < G) && decide (f (51 + j) = x1))) := by
  unfold F_X8_goersIn
  exact gi_5 G5 sc hG n 0 0 0 lit_0 (Nat.zero_le _) (fun j _ => by rw [bt_zero, decide_eq_false (Nat.not_lt_zero j), Bool.false_and])
theorem wa_4 (v : VT T) (e : EN2 s T h) : ∀ (n : Nat) (l2 l3 : Int32) (i : Nat), l3.toInt = (i : Int) → i ≤ T.go.length → (∀ j, j < 32 → bt l2 j = (decide (j < i) && decide (hi h 263 (51 + j) = x1))) → Pc (W_X12_whoAt n 4 h x1 l2 l3) (fun q => q.2 = h ∧ ∀ j, j < 32 → bt q.1 j = (decide (j < T.go.length) && decide (hi h 263 (51 + j) = x1))) := by
  intro n
  have G5 := v.2.2.1.1
  have hG := e.2.2.1
  induction n with
  | zero => intro l2 l3 i e1 e2 b; exact Pc.no
  | succ n ih =>
    intro l2 l3 i e1 e2 b
    have f1 := lit_1
    have f51 := lit_51
    rw [u_X12_whoAt, e.nc]
    refine Pc.pos rfl (Pc.chk (fun _ => ?_))
    refine Pc.le (fun z => Pc.ret ⟨rfl, ?_⟩) (fun z => Pc.chk (fun _ => ?_))
    · have : i = T.go.length := by omega
      rw [← this]
      exact b
    have n1 := ncT (show 0 ≤ l3.toInt by omega)
    have n2 : Int32.toNatClampNeg l3 = i := by omega
    have a1 := adT l3 1 (by omega) (by omega)
    have a2 := adT 51 l3 (by omega) (by omega)
    have n3 := ncT (show 0 ≤ (51 + l3).toInt by omega)
    have n4 : Int32.toNatClampNeg (51 + l3) = 51 + i := by omega
    rw [n4]
    have st (y : Bool) (hy : y = decide (hi h 263 (51 + i) = x1)) (l3' : Int32) (hl : ∀ j, j < 32 → bt l3' j = (bt l2 j || (y && decide (j = i)))) : ∀ j, j < 32 → bt l3' j = (decide (j < i + 1) && decide (hi h 263 (51 + j) = x1)) := by
      intro j hj
      rw [hl j hj, b j hj]
      by_cases w : j = i
      · rw [w, hy, decide_eq_false (Nat.lt_irrefl i), decide_eq_true (show i < i + 1 by omega), decide_eq_true (show i = i from rfl), Bool.false_and, Bool.false_or, Bool.and_true, Bool.true_and]
      · rw [decide_eq_false w, Bool.and_false, Bool.or_false]
        by_cases w2 : j < i
        · rw [decide_eq_true w2, decide_eq_true (show j < i + 1 by omega)]
        · rw [decide_eq_false w2, decide_eq_false (show ¬ j < i + 1 by omega)]
    refine Pc.ite (fun z3 => ?_) (fun z3 => ?_)
    · exact ih _ (l3 + 1) (i + 1) (by omega) (by omega) (st true (decide_eq_true z3).symm _ (fun j hj => by rw [bt_add e1 (by omega), Bool.true_and]))
    · exact ih _ (l3 + 1) (i + 1) (by omega) (by omega) (st false (decide_eq_false z3).symm _ (fun j hj => by rw [Bool.false_and, Bool.or_false]))
theorem wa_r (v : VT T) (e : EN2 s T h) : Pc (F_X12_whoAt n h x1) (fun q => q.2 = h ∧ ∀ j, j < 32 → bt q.1 j = (decide (j < T.go.length) && decide (hi h 263 (51 + j) = x1))) := by
  unfold F_X12_whoAt
  exact wa_4 v e n 0 0 0 lit_0 (Nat.zero_le _) (fun j _ => by rw [bt_zero, decide_eq_false (Nat.not_lt_zero j), Bool.false_and])
/-! a rope -/
theorem SCR.rp (x : SCR c G f a h) (c25 : c ≤ 25) (G5 : G ≤ 5) : SCR c G (rpF f x1) a (wrI h a 2 (hi h a 2 ^^^ ((1 : Int32) <<< (x1 &&& 31)))) := by
  obtain ⟨⟨y1, y2, y3⟩, y4, y5, y6⟩ := x
  unfold rpF
  refine ⟨⟨?_, ?_, ?_⟩, fun i hi' => ?_, fun i hi' => ?_, fun k hk => ?_⟩
  · rw [hi_wrI, if_neg (by omega), upF_n (by omega)]; exact y1
  · rw [hi_wrI, if_neg (by omega), upF_n (by omega)]; exact y2
  · rw [hi_wrI, if_pos ⟨rfl, rfl⟩, upF_e, y3]
  · rw [hi_wrI, if_neg (by omega)]
    by_cases y : i < c
    · rw [upF_n (by omega)]; exact y4 i hi'
    · exact ⟨fun z => absurd ((y4 i hi').mp z).1 y, fun z => absurd z.1 y⟩
  · rw [hi_wrI, if_neg (by omega), upF_n (by omega), upF_n (by omega)]; exact y5 i hi'
  · rw [hi_wrI, if_neg (by omega), hi_wrI, if_neg (by omega), upF_n (by omega), upF_n (by omega)]; exact y6 k hk
theorem RVR.rp (x : RVR c G f) (c25 : c ≤ 25) (G5 : G ≤ 5) {b : Nat} (bc : b < c) (hb : x1.toInt = (b : Int)) (no : ∀ k, k < G → f (51 + k) ≠ x1) : RVR c G (rpF f x1) := by
  obtain ⟨y1, y2, y3, y4⟩ := x
  have n1 := ncT (show 0 ≤ x1.toInt by omega)
  have n2 : Int32.toNatClampNeg x1 = b := by omega
  unfold rpF
  refine ⟨fun i hi' => ?_, fun i hi' z => ?_, fun k hk => ?_, fun k h1 h2 => ?_⟩
  · rw [upF_n (by omega), upF_n (by omega)]; exact y1 i hi'
  · rw [upF_e, bt_xor, btL (by omega) (by omega), n2] at z
    by_cases w : i = b
    · omega
    · rw [decide_eq_false w, Bool.xor_false] at z
      exact y2 i hi' z
  · obtain ⟨⟨z1, z2⟩, z3⟩ := y3 k hk
    rw [upF_n (show 51 + k ≠ 50 by omega), upF_e, bt_xor, btL (by omega) (by omega), n2, z3]
    refine ⟨⟨z1, z2⟩, ?_⟩
    rw [Bool.false_xor]
    refine decide_eq_false (fun w => no k hk (Int32.toInt_inj.mp ?_))
    omega
  · rw [upF_n (by omega), upF_n (by omega)]; exact y4 k h1 h2
end R56S
