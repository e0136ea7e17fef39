/-! ALL GOERS WALK, in the reference -/
/-- the cells on each side, as they must be -/
def SD5 (T : TT) (h : Hp) : Prop := ∀ c k : Nat, c < wT T * gT T → k < 5 → (hi h 264 (5 * c + k)).toInt = ((sdv (wT T) (gT T) c k : Nat) : Int)
def bgF (x k : Nat) : Prop := (260 ≤ x ∧ x ≤ 261) ∨ x = 263 ∨ x = 265 ∨ (x = 226 ∧ k = 52)
section R56I
variable {s : Nat} {T : TT} {f : Nat → Int32} {h h0 q : Hp} {n : Nat} {x1 x2 x3 x4 : Int32}
theorem SD5.of (v : VT T) (e : EN2 s T h) (sd : sdO h) : SD5 T h := by
  obtain ⟨c25, ⟨w2, w5⟩, ⟨g2, g5⟩, y1, y2⟩ := wg_T v
  have nc := e.nc
  have e1 : wdN h = ((wT T : Nat) : Int) := by
    unfold wdN
    rw [nc]
    exact e.2.1.1.trans y1
  have e2 : hgN h = ((gT T : Nat) : Int) := by
    unfold hgN
    rw [nc]
    exact e.2.1.2.trans y2
  intro c k hc hk
  have := sd c k (by unfold cnN; rw [e1, e2, ← Int.natCast_mul]; omega) hk
  rw [e1, e2, Int.toNat_natCast, Int.toNat_natCast] at this
  exact this
theorem EN2.bg (e : EN2 s T h0) (fr : frZ bgF h0 h) : EN2 s T h := e.cg (fun a k h1 h2 => fr.1 a k (by unfold bgF; omega)) (fr.1 226 18 (by unfold bgF; omega))
theorem SD5.bg (e : SD5 T h0) (fr : frZ bgF h0 h) : SD5 T h := fun c k hc hk => by rw [fr.1 264 _ (by unfold bgF; omega)]; exact e c k hc hk
theorem ir_r {b : Nat} (hb : b < 32) (hx : x1.toInt = (b : Int)) : Pc (F_X12_isRoped n h x1) (fun q => q.2 = h ∧ q.1 = if bt (hi h 263 50) b = true then 1 else 0) := by
  have f1 := lit_1
  have n1 := ncT (show 0 ≤ x1.toInt by omega)
  have n2 : Int32.toNatClampNeg x1 = b := by omega
  have b1 := btS1 (hi h 263 50) (c := x1) (by omega) (by omega)
  rw [n2] at b1
  unfold F_X12_isRoped
  refine Pc.eq (fun z => Pc.ret ⟨rfl, ?_⟩) (fun z => Pc.ret ⟨rfl, ?_⟩)
  · rw [if_pos (b1.mp (z.trans f1))]
  · rw [if_neg (fun y => z ((b1.mpr y).trans f1.symm))]
/-- where a goer goes -/
theorem wo_r (v : VT T) (e : EN2 s T h) (sd : SD5 T h) {g b : Nat} (g5 : g < 5) (hg : x1.toInt = (g : Int)) (hb : b < wT T * gT T) (hx : x2.toInt = (b : Int)) {k : Nat} (k4 : k < 4) (hk : x3.toInt = (k : Int)) (hp : x4 = plW4 k) : Pc (F_X12_wayOf n h x1 x2 x3 x4) (fun q => q.1.toInt = ((stF T (hi h 263) b (hi h 263 (56 + g)) x1 k : Nat) : Int)) := by
  have f0 := lit_0
  have f5 := lit_5
  have f56 : (56 : Int32).toInt = 56 := by decide
  obtain ⟨c25, ⟨w2, w5⟩, ⟨g2, g5'⟩, -, -⟩ := wg_T v
  have a1 := adT 56 x1 (by omega) (by omega)
  have n1 := ncT (show 0 ≤ (56 + x1).toInt by omega)
  have n2 : Int32.toNatClampNeg (56 + x1) = 56 + g := by omega
  unfold F_X12_wayOf
  rw [n2]
  refine Pc.chk (fun _ => ?_)
  refine Pc.bind (fun y e' => And.intro (ar_r v e (b := b) hb hx k4 hk hp (x2 := hi h 263 (56 + g)) (x3 := x1) y e') (zf_X12_toldOf y e')) (fun q2 h2 => ?_)
  obtain ⟨t1, z2⟩ := h2
  have m5x := mlT 5 x2 5 f5 (by omega) (by omega)
  have r2 (a j : Nat) (n1 : a ≠ 260) (n2 : a ≠ 261) (n3 : ¬ (a = 226 ∧ j = 52)) : hi q2.2 a j = hi h a j := z2.1 a j (by omega)
  have e50 : hi q2.2 263 50 = hi h 263 50 := r2 263 50 (by decide) (by decide) (by decide)
  -- the cell that is taken
  have go (y : Int32) (d : Nat) (hd : d < 5) (hy : y.toInt = ((5 * b + d : Nat) : Int)) (ed : (lwT T (hi h 263) b (hi h 263 (56 + g)) x1 k).toInt.toNat % 5 = d) : Pc ((F_X12_isRoped n q2.2 (hi q2.2 264 (Int32.toNatClampNeg y))).bind (fun q6 => (if (q6.1 : Int32) = (0 : Int32) then some ((hi q2.2 264 (Int32.toNatClampNeg y)), q6.2) else some (x2, q6.2)))) (fun q => q.1.toInt = ((stF T (hi h 263) b (hi h 263 (56 + g)) x1 k : Nat) : Int)) := by
    have m1 := ncT (show 0 ≤ y.toInt by omega)
    have m2 : Int32.toNatClampNeg y = 5 * b + d := by omega
    rw [m2]
    have es : (hi q2.2 264 (5 * b + d)).toInt = ((sdv (wT T) (gT T) b d : Nat) : Int) := by
      rw [r2 264 _ (by decide) (by decide) (by omega)]
      exact sd b d hb hd
    have dl : sdv (wT T) (gT T) b d < wT T * gT T := (sdv_all (wT T) (by omega) (gT T) (by omega) b (by omega) d hd hb).1
    unfold stF
    rw [ed]
    refine Pc.bind (ir_r (b := sdv (wT T) (gT T) b d) (by omega) es) (fun q6 h6 => ?_)
    obtain ⟨t6, t7⟩ := h6
    rw [e50] at t7
    rw [t7]
    by_cases z : bt (hi h 263 50) (sdv (wT T) (gT T) b d) = true
    · rw [if_pos z, if_pos z]
      exact Pc.ite (fun y => absurd y (by decide)) (fun _ => Pc.ret hx)
    · rw [if_neg z, if_neg z]
      exact Pc.ite (fun _ => Pc.ret es) (fun y => absurd rfl y)
  refine Pc.le (fun z => Pc.chk (fun _ => ?_)) (fun z => Pc.chk (fun _ => ?_))
  · have m5 := rmN (x := q2.1) (y := 5) (a := q2.1.toInt.toNat) (b := 5) (by omega) f5
    have lm : q2.1.toInt.toNat % 5 < 5 := Nat.mod_lt _ (by decide)
    generalize (q2.1 - q2.1 / 5 * 5 : Int32) = r at m5 ⊢
    have a2 := adT (5 * x2) r (by omega) (by omega)
    exact go _ (q2.1.toInt.toNat % 5) lm (by omega) (by rw [t1])
  · have a2 := adT (5 * x2) 0 (by omega) (by omega)
    refine go _ 0 (by decide) (by omega) ?_
    rw [← t1]
    have : q2.1.toInt.toNat = 0 := by omega
    rw [this]
theorem il_r {b : Nat} (hb : b < 25) (hx : x1.toInt = (b : Int)) : Pc (F_X12_isLoud n h x1 x2) (fun q => q.2 = h ∧ q.1 = if loudF (hi h 263) b x2 = true then 1 else 0) := by
  have f0 := lit_0
  have f25 := lit_25
  have n1 := ncT (show 0 ≤ x1.toInt by omega)
  have n2 : Int32.toNatClampNeg x1 = b := by omega
  have a1 := adT 25 x1 (by omega) (by omega)
  have n3 := ncT (show 0 ≤ (25 + x1).toInt by omega)
  have n4 : Int32.toNatClampNeg (25 + x1) = 25 + b := by omega
  unfold F_X12_isLoud loudF
  rw [n2, n4]
  refine Pc.chk (fun _ => Pc.le (fun z => Pc.ret ⟨rfl, ?_⟩) (fun z => Pc.chk (fun _ => Pc.ite (fun _ => Pc.no) (fun _ => Pc.chk (fun _ => ?_)))))
  · rw [decide_eq_false (show ¬ 0 < (hi h 263 b).toInt by omega)]
    rfl
  · rw [decide_eq_true (show 0 < (hi h 263 b).toInt by omega), Bool.true_and]
    by_cases y : x2 - x2 / hi h 263 b * hi h 263 b = hi h 263 (25 + b)
    · rw [decide_eq_true y]
      exact Pc.ite (fun _ => Pc.ret ⟨rfl, rfl⟩) (fun w => absurd y w)
    · rw [decide_eq_false y]
      exact Pc.ite (fun w => absurd w y) (fun _ => Pc.ret ⟨rfl, rfl⟩)
/-- what a beat comes to, but for the spreading -/
def btQ (T : TT) (f : Nat → Int32) (h0 q : Hp) : Prop := ∃ (m : Nat) (h' : Hp), frZ bgF h0 h' ∧ (∀ k, hi h' 263 k = wk2 T f k) ∧ ((vp_nar .boolean (hi h0 226 56) = 0 ∧ F_X12_spreads m h' = some q) ∨ (vp_nar .boolean (hi h0 226 56) ≠ 0 ∧ q = h'))
theorem gN (v : VT T) (e : EN2 s T h0) (fr : frZ bgF h0 h) : hi h 242 (Int32.toNatClampNeg (hi h 226 18)) = hi h0 242 s ∧ (hi h0 242 s).toInt = (T.go.length : Int) ∧ T.go.length ≤ 5 := by
  have e' := e.bg fr
  rw [e'.nc, fr.1 242 s (by unfold bgF; omega)]
  exact ⟨rfl, e.2.2.1, v.2.2.1.1⟩
theorem lt_140 (v : VT T) (e : EN2 s T h0) (rv : RVR (wT T * gT T) T.go.length f) : ∀ (n : Nat) (h : Hp) (l1 : Int32) (i : Nat), l1.toInt = (i : Int) → i ≤ T.go.length → frZ bgF h0 h → (∀ k, hi h 263 k = w2i T f i k) → (∀ j, j < T.go.length → hi h 265 j = if loudF f (f (51 + j)).toInt.toNat (f 61) = true then Int32.ofNat (stF T f (f (51 + j)).toInt.toNat (f (56 + j)) (Int32.ofNat j) 1) else -1) → Pc (W_X12_beatGoes n 140 h l1) (btQ T f h0) := by
  intro n
  have c25 := (wg_T v).1
  induction n with
  | zero => intro h l1 i a b c d r; exact Pc.no
  | succ n ih =>
    intro h l1 i a b c d r
    have f0 := lit_0
    have f1 := lit_1
    have f51 : (51 : Int32).toInt = 51 := by decide
    have f56 : (56 : Int32).toInt = 56 := by decide
    obtain ⟨g1, g2, g5⟩ := gN v e c
    rw [u_X12_beatGoes]
    refine Pc.neg (by decide) (Pc.neg (by decide) (Pc.neg (by decide) (Pc.pos rfl ?_)))
    rw [g1]
    refine Pc.chk (fun _ => ?_)
    refine Pc.le (fun z => ?_) (fun z => Pc.chk (fun _ => ?_))
    · have ei : i = T.go.length := by omega
      have eq (k : Nat) : hi h 263 k = wk2 T f k := by
        rw [d k]
        unfold w2i
        by_cases y : (51 ≤ k ∧ k < 51 + i) ∨ (56 ≤ k ∧ k < 56 + i)
        · rw [if_pos y]
        · rw [if_neg y]
          unfold wk2
          rw [if_neg (by omega), if_neg (by omega)]
      have e56 : hi h 226 56 = hi h0 226 56 := c.1 226 56 (by unfold bgF; omega)
      rw [e56]
      refine Pc.ite (fun y => ?_) (fun y => Pc.ret ⟨0, h, c, eq, Or.inr ⟨y, rfl⟩⟩)
      intro q hq
      cases z2 : F_X12_spreads n h with
      | none =>
        rw [z2] at hq
        exact (nsn hq).elim
      | some q' =>
        rw [z2] at hq
        have : q' = q := Option.some.inj hq
        subst this
        exact ⟨n, h, c, eq, Or.inl ⟨y, z2⟩⟩
    · have n1 := ncT (show 0 ≤ l1.toInt by omega)
      have n2 : Int32.toNatClampNeg l1 = i := by omega
      have a1 := adT l1 1 (by omega) (by omega)
      have a51 := adT 51 l1 (by omega) (by omega)
      have a56 := adT 56 l1 (by omega) (by omega)
      have n3 := ncT (show 0 ≤ (51 + l1).toInt by omega)
      have n4 : Int32.toNatClampNeg (51 + l1) = 51 + i := by omega
      have n5 := ncT (show 0 ≤ (56 + l1).toInt by omega)
      have n6 : Int32.toNatClampNeg (56 + l1) = 56 + i := by omega
      rw [n2, n4, n6]
      have ri := r i (by omega)
      have w51 : wk2 T f (51 + i) = (if loudF f (f (51 + i)).toInt.toNat (f 61) = true then Int32.ofNat (stF T f (f (51 + i)).toInt.toNat (f (56 + i)) (Int32.ofNat i) 1) else f (51 + i)) := by
        unfold wk2
        rw [if_pos ⟨by omega, by omega⟩, show 51 + i + 5 = 56 + i by omega, show 51 + i - 51 = i by omega]
      have w56 : wk2 T f (56 + i) = (if loudF f (f (51 + i)).toInt.toNat (f 61) = true then f (56 + i) + 1 else f (56 + i)) := by
        unfold wk2
        rw [if_neg (by omega), if_pos ⟨by omega, by omega⟩, show 56 + i - 5 = 51 + i by omega]
      obtain ⟨⟨rg1, rg2⟩, rg3⟩ := rv.2.2.1 i (by omega)
      by_cases z3 : loudF f (f (51 + i)).toInt.toNat (f 61) = true
      · rw [if_pos z3] at ri w51 w56
        have dl := stF_lt v (f := f) (b := (f (51 + i)).toInt.toNat) (by omega) (x4 := f (56 + i)) (x5 := Int32.ofNat i) (k := 1)
        have pz : 0 ≤ (hi h 265 i).toInt := by
          rw [ri, Int32.toInt_ofNat_of_lt (by omega)]
          omega
        refine Pc.le (fun _ => Pc.chk (fun _ => Pc.chk (fun _ => Pc.chk (fun _ => Pc.chk (fun _ => ?_))))) (fun y => by exfalso; omega)
        have e56 : hi (wrI h 263 (51 + i) (hi h 265 i)) 263 (56 + i) = f (56 + i) := by
          rw [hi_wrI, if_neg (by omega), d (56 + i)]
          exact if_neg (by omega)
        refine ih _ (l1 + 1) (i + 1) (by omega) (by omega) ((c.w (Or.inr (Or.inl rfl))).w (Or.inr (Or.inl rfl))) (fun k => ?_) (fun j hj => ?_)
        · rw [e56, hi_wrI]
          by_cases y1 : k = 56 + i
          · rw [if_pos ⟨rfl, y1⟩, y1, ← w56]
            exact (if_pos (Or.inr ⟨by omega, by omega⟩)).symm
          · rw [if_neg (fun z => y1 z.2), hi_wrI]
            by_cases y2 : k = 51 + i
            · rw [if_pos ⟨rfl, y2⟩, y2, ri, ← w51]
              exact (if_pos (Or.inl ⟨by omega, by omega⟩)).symm
            · rw [if_neg (fun z => y2 z.2), d k]
              unfold w2i
              by_cases y3 : (51 ≤ k ∧ k < 51 + i) ∨ (56 ≤ k ∧ k < 56 + i)
              · rw [if_pos y3, if_pos (by omega)]
              · rw [if_neg y3, if_neg (by omega)]
        · rw [hi_wrI, if_neg (by omega), hi_wrI, if_neg (by omega)]
          exact r j hj
      · rw [if_neg z3] at ri w51 w56
        have fm : (-1 : Int32).toInt = -1 := by decide
        refine Pc.le (fun y => by exfalso; rw [ri] at y; omega) (fun _ => ?_)
        refine ih h (l1 + 1) (i + 1) (by omega) (by omega) c (fun k => ?_) r
        rw [d k]
        unfold w2i
        by_cases y3 : (51 ≤ k ∧ k < 51 + i) ∨ (56 ≤ k ∧ k < 56 + i)
        · rw [if_pos y3, if_pos (by omega)]
        · rw [if_neg y3]
          by_cases y1 : k = 56 + i
          · rw [if_pos (by omega), y1]; exact w56.symm
          · by_cases y2 : k = 51 + i
            · rw [if_pos (by omega), y2]; exact w51.symm
            · rw [if_neg (by omega)]
theorem lt_81 (v : VT T) (e : EN2 s T h0) (sd : SD5 T h0) (rv : RVR (wT T * gT T) T.go.length f) : ∀ (n : Nat) (h : Hp) (l1 : Int32) (i : Nat), l1.toInt = (i : Int) → i ≤ T.go.length → frZ bgF h0 h → (∀ k, hi h 263 k = f k) → (∀ j, j < i → hi h 265 j = if loudF f (f (51 + j)).toInt.toNat (f 61) = true then Int32.ofNat (stF T f (f (51 + j)).toInt.toNat (f (56 + j)) (Int32.ofNat j) 1) else -1) → Pc (W_X12_beatGoes n 81 h l1) (btQ T f h0) := by
  intro n
  have c25 := (wg_T v).1
  induction n with
  | zero => intro h l1 i a b c d r; exact Pc.no
  | succ n ih =>
    intro h l1 i a b c d r
    have f0 := lit_0
    have f1 := lit_1
    have f51 : (51 : Int32).toInt = 51 := by decide
    obtain ⟨g1, g2, g5⟩ := gN v e c
    rw [u_X12_beatGoes]
    refine Pc.neg (by decide) (Pc.neg (by decide) (Pc.pos rfl ?_))
    rw [g1]
    refine Pc.chk (fun _ => ?_)
    refine Pc.le (fun z => ?_) (fun z => Pc.chk (fun _ => ?_))
    · refine lt_140 v e rv n h 0 0 f0 (Nat.zero_le _) c (fun k => ?_) (fun j hj => r j (by omega))
      rw [d k]
      exact (if_neg (by omega)).symm
    · have n1 := ncT (show 0 ≤ l1.toInt by omega)
      have n2 : Int32.toNatClampNeg l1 = i := by omega
      have el : l1 = Int32.ofNat i := nOf a (by omega)
      have a1 := adT l1 1 (by omega) (by omega)
      have a51 := adT 51 l1 (by omega) (by omega)
      have n3 := ncT (show 0 ≤ (51 + l1).toInt by omega)
      have n4 : Int32.toNatClampNeg (51 + l1) = 51 + i := by omega
      obtain ⟨⟨rg1, rg2⟩, rg3⟩ := rv.2.2.1 i (by omega)
      obtain ⟨b', hb⟩ : ∃ b : Nat, (f (51 + i)).toInt = (b : Int) := ⟨(f (51 + i)).toInt.toNat, by omega⟩
      have eb : (f (51 + i)).toInt.toNat = b' := by omega
      have ef : hi h 263 = f := funext d
      rw [n4, d (51 + i), d 61, n2]
      refine Pc.bind (il_r (b := b') (by omega) hb) (fun q13 h13 => ?_)
      obtain ⟨t1, t2⟩ := h13
      rw [ef] at t2
      rw [t1, t2]
      have nx (u : Int32) (hu : u = if loudF f b' (f 61) = true then Int32.ofNat (stF T f b' (f (56 + i)) (Int32.ofNat i) 1) else -1) (h2 : Hp) (c2 : frZ bgF h0 h2) (d2 : ∀ k, hi h2 263 k = f k) (r2 : ∀ j, hi h2 265 j = hi h 265 j) : Pc (W_X12_beatGoes n 81 (wrI h2 265 i u) (l1 + 1)) (btQ T f h0) := by
        refine ih _ (l1 + 1) (i + 1) (by omega) (by omega) (c2.w (Or.inr (Or.inr (Or.inl rfl)))) (fun k => by rw [hi_wrI, if_neg (by omega)]; exact d2 k) (fun j hj => ?_)
        rw [hi_wrI]
        by_cases y : j = i
        · rw [if_pos ⟨rfl, y⟩, y, eb]; exact hu
        · rw [if_neg (fun z => y z.2), r2 j]; exact r j (by omega)
      by_cases z3 : loudF f b' (f 61) = true
      · rw [if_pos z3]
        refine Pc.ite (fun y => absurd y (by decide)) (fun _ => ?_)
        have mo : Pc (F_X12_moveOf n h l1) (fun q => q.1.toInt = ((stF T f b' (f (56 + i)) l1 1 : Nat) : Int) ∧ frZ (fun x k => (260 ≤ x ∧ x ≤ 261) ∨ (x = 226 ∧ (k = 52))) h q.2) := by
          unfold F_X12_moveOf
          rw [n4, d (51 + i)]
          refine Pc.chk (fun _ => ?_)
          refine Pc.bind (fun y e' => And.intro (wo_r v (e.bg c) (sd.bg c) (g := i) (b := b') (by omega) a (by omega) hb (k := 1) (by decide) f1 rfl y e') (zf_X12_wayOf y e')) (fun q2 h2 => Pc.ret ?_)
          obtain ⟨t3, z3⟩ := h2
          rw [ef] at t3
          exact ⟨t3, z3⟩
        refine Pc.bind mo (fun q17 h17 => Pc.chk (fun _ => ?_))
        obtain ⟨t3, z17⟩ := h17
        have dl := stF_lt v (f := f) (b := b') (by omega) (x4 := f (56 + i)) (x5 := Int32.ofNat i) (k := 1)
        rw [el] at t3
        refine nx q17.1 ?_ q17.2 (c.tr (z17.sub (fun x k z => by unfold bgF; omega))) (fun k => by rw [z17.1 263 k (by omega)]; exact d k) (fun j => z17.1 265 j (by omega))
        rw [if_pos z3]
        exact nOf t3 (by omega)
      · rw [if_neg z3]
        refine Pc.ite (fun _ => Pc.chk (fun _ => ?_)) (fun y => absurd rfl y)
        exact nx (-1) (if_neg z3).symm h c d (fun _ => rfl)
theorem lt_34 (v : VT T) (e : EN2 s T h0) (sd : SD5 T h0) (rv : RVR (wT T * gT T) T.go.length f) : ∀ (n : Nat) (h : Hp) (l1 : Int32) (i : Nat), l1.toInt = (i : Int) → i ≤ T.go.length → frZ bgF h0 h → (∀ k, hi h 263 k = w1i T f i k) → (∀ j, j < T.go.length → hi h 265 j = wk1 T f (51 + j)) → RVR (wT T * gT T) T.go.length (wk1 T f) → Pc (W_X12_beatGoes n 34 h l1) (btQ T (wk1 T f) h0) := by
  intro n
  induction n with
  | zero => intro h l1 i a b c d r r1; exact Pc.no
  | succ n ih =>
    intro h l1 i a b c d r r1
    have f0 := lit_0
    have f1 := lit_1
    have f51 : (51 : Int32).toInt = 51 := by decide
    obtain ⟨g1, g2, g5⟩ := gN v e c
    rw [u_X12_beatGoes]
    refine Pc.neg (by decide) (Pc.pos rfl ?_)
    rw [g1]
    refine Pc.chk (fun _ => ?_)
    refine Pc.le (fun z => ?_) (fun z => Pc.chk (fun _ => Pc.chk (fun _ => ?_)))
    · have ei : i = T.go.length := by omega
      refine lt_81 v e sd r1 n _ 0 0 f0 (Nat.zero_le _) (c.w (Or.inr (Or.inl rfl))) (fun k => ?_) (fun j hj => absurd hj (Nat.not_lt_zero j))
      rw [hi_wrI]
      have e61 : hi h 263 61 = f 61 := (d 61).trans (if_neg (by omega))
      by_cases y : k = 61
      · rw [if_pos ⟨rfl, y⟩, y, e61]
        unfold wk1
        rw [if_neg (by omega), if_pos rfl]
      · rw [if_neg (fun z => y z.2), d k]
        unfold w1i
        by_cases y2 : 51 ≤ k ∧ k < 51 + i
        · rw [if_pos y2]
        · rw [if_neg y2]
          unfold wk1
          rw [if_neg (by omega), if_neg y]
    · have n1 := ncT (show 0 ≤ l1.toInt by omega)
      have n2 : Int32.toNatClampNeg l1 = i := by omega
      have a1 := adT l1 1 (by omega) (by omega)
      have a51 := adT 51 l1 (by omega) (by omega)
      have n3 := ncT (show 0 ≤ (51 + l1).toInt by omega)
      have n4 : Int32.toNatClampNeg (51 + l1) = 51 + i := by omega
      rw [n2, n4, r i (by omega)]
      refine ih _ (l1 + 1) (i + 1) (by omega) (by omega) (c.w (Or.inr (Or.inl rfl))) (fun k => ?_) (fun j hj => by rw [hi_wrI, if_neg (by omega)]; exact r j hj) r1
      rw [hi_wrI]
      unfold w1i
      by_cases y2 : k = 51 + i
      · rw [if_pos ⟨rfl, y2⟩, if_pos (by omega), y2]
      · rw [if_neg (fun z => y2 z.2), d k]
        unfold w1i
        by_cases y3 : 51 ≤ k ∧ k < 51 + i
        · rw [if_pos y3, if_pos (by omega)]
        · rw [if_neg y3, if_neg (by omega)]
theorem lt_2 (v : VT T) (e : EN2 s T h0) (sd : SD5 T h0) (rv : RVR (wT T * gT T) T.go.length f) (r1 : RVR (wT T * gT T) T.go.length (wk1 T f)) : ∀ (n : Nat) (h : Hp) (l1 : Int32) (i : Nat), l1.toInt = (i : Int) → i ≤ T.go.length → frZ bgF h0 h → (∀ k, hi h 263 k = f k) → (∀ j, j < i → hi h 265 j = wk1 T f (51 + j)) → Pc (W_X12_beatGoes n 2 h l1) (btQ T (wk1 T f) h0) := by
  intro n
  have c25 := (wg_T v).1
  induction n with
  | zero => intro h l1 i a b c d r; exact Pc.no
  | succ n ih =>
    intro h l1 i a b c d r
    have f0 := lit_0
    have f1 := lit_1
    have f51 : (51 : Int32).toInt = 51 := by decide
    obtain ⟨g1, g2, g5⟩ := gN v e c
    rw [u_X12_beatGoes]
    refine Pc.pos rfl ?_
    rw [g1]
    refine Pc.chk (fun _ => ?_)
    refine Pc.le (fun z => ?_) (fun z => ?_)
    · have ei : i = T.go.length := by omega
      exact lt_34 v e sd rv n h 0 0 f0 (Nat.zero_le _) c (fun k => (d k).trans (if_neg (by omega)).symm) (fun j hj => r j (by omega)) r1
    · have n1 := ncT (show 0 ≤ l1.toInt by omega)
      have n2 : Int32.toNatClampNeg l1 = i := by omega
      have el : l1 = Int32.ofNat i := nOf a (by omega)
      have a1 := adT l1 1 (by omega) (by omega)
      have a51 := adT 51 l1 (by omega) (by omega)
      have n3 := ncT (show 0 ≤ (51 + l1).toInt by omega)
      have n4 : Int32.toNatClampNeg (51 + l1) = 51 + i := by omega
      obtain ⟨⟨rg1, rg2⟩, rg3⟩ := rv.2.2.1 i (by omega)
      obtain ⟨b', hb⟩ : ∃ b : Nat, (f (51 + i)).toInt = (b : Int) := ⟨(f (51 + i)).toInt.toNat, by omega⟩
      have eb : (f (51 + i)).toInt.toNat = b' := by omega
      have ef : hi h 263 = f := funext d
      have mo : Pc (F_X12_stepOf n h l1) (fun q => q.1.toInt = ((stF T f b' (f (56 + i)) l1 0 : Nat) : Int) ∧ frZ (fun x k => (260 ≤ x ∧ x ≤ 261) ∨ (x = 226 ∧ (k = 52))) h q.2) := by
        unfold F_X12_stepOf
        rw [n4, d (51 + i)]
        refine Pc.chk (fun _ => ?_)
        refine Pc.bind (fun y e' => And.intro (wo_r v (e.bg c) (sd.bg c) (g := i) (b := b') (by omega) a (by omega) hb (k := 0) (by decide) f0 rfl y e') (zf_X12_wayOf y e')) (fun q2 h2 => Pc.ret ?_)
        obtain ⟨t3, z3⟩ := h2
        rw [ef] at t3
        exact ⟨t3, z3⟩
      refine Pc.bind mo (fun q17 h17 => Pc.chk (fun _ => ?_))
      obtain ⟨t3, z17⟩ := h17
      have dl := stF_lt v (f := f) (b := b') (by omega) (x4 := f (56 + i)) (x5 := Int32.ofNat i) (k := 0)
      rw [el] at t3
      have w51 : wk1 T f (51 + i) = Int32.ofNat (stF T f b' (f (56 + i)) (Int32.ofNat i) 0) := by
        unfold wk1
        rw [if_pos ⟨by omega, by omega⟩, eb, show 51 + i + 5 = 56 + i by omega, show 51 + i - 51 = i by omega]
      rw [n2]
      refine ih _ (l1 + 1) (i + 1) (by omega) (by omega) ((c.tr (z17.sub (fun x k z => by unfold bgF; omega))).w (Or.inr (Or.inr (Or.inl rfl)))) (fun k => by rw [hi_wrI, if_neg (by omega), z17.1 263 k (by omega)]; exact d k) (fun j hj => ?_)
      rw [hi_wrI]
      by_cases y : j = i
      · rw [if_pos ⟨rfl, y⟩, y, w51]
        exact nOf t3 (by omega)
      · rw [if_neg (fun z => y z.2), z17.1 265 j (by omega)]; exact r j (by omega)
theorem lt_beat (v : VT T) (e : EN2 s T h) (sd : SD5 T h) (rv : RVR (wT T * gT T) T.go.length (hi h 263)) (r1 : RVR (wT T * gT T) T.go.length (wk1 T (hi h 263))) : Pc (F_X12_beatGoes n h) (btQ T (wk1 T (hi h 263)) h) := by
  unfold F_X12_beatGoes
  exact lt_2 v e sd rv r1 n h 0 0 lit_0 (Nat.zero_le _) (frZ.rf h) (fun _ => rfl) (fun j hj => absurd hj (Nat.not_lt_zero j))
end R56I
